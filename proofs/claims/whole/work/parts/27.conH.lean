abbrev rmX7_would : Room := { frames := 3, cells := 0, slots := 0, locals := 73 }
theorem mbX7_would_92 : Cond.constant RX7 92 (-2000000004) ∈ wsX7_would := by decide +kernel
theorem mbX7_would_55 : Cond.constant RX7 55 (-2000000001) ∈ wsX7_would := by decide +kernel
set_option maxHeartbeats 4000000 in
set_option maxRecDepth 100000 in
theorem kX7_would (l : Launch) (G : wG) {x1 : Int32} {x2 : Int32} {x3 : Int32} {M0 M1 : wM} {r : Int32} (hf : fX7_would x1 x2 x3 M0 = some (r, M1)) : mI l yX7_would wsX7_would rmX7_would G [.ref (ga G (96)), .int (x1), .int (x2), .int (x3)] M0 r M1 := by
  refine mI.of (cc := cX7_would) (nL := 4) (ret := (some .int)) (own := RX7) (lv := [(0, .ref (ga G (96))), (1, .int (x1)), (2, .int (x2)), (3, .int (x3))]) (plainFor_of_name (by decide +kernel)) rfl rfl (Nat.le_of_ble_eq_true rfl) rfl ?_
  intro p e s m args below meth c hC hr hlk
  unfold fX7_would at hf
  refine wa_iload_n hC dX7_would_0 rfl 1 rfl ?_
  refine wa_iload_n hC dX7_would_1 rfl 2 rfl ?_
  refine wa_iload_n hC dX7_would_2 rfl 3 rfl ?_
  obtain ⟨v1, h1, hf⟩ := bd hf
  refine wa_calli (rest := []) (wr_S hC (kX7_areValues l G h1) (va_cwS 3 hC.1.2.2.2.2 gX7_would_X7_areValues rfl rfl rfl (by decide +kernel) ⟨Nat.le_of_ble_eq_true rfl, Nat.le_of_ble_eq_true rfl⟩) rfl rfl (Nat.le_of_ble_eq_true rfl) dX7_would_3) ?_
  refine wa_if_ne hC 12 dX7_would_6 (by decide) (fun c2 => ?_) (fun c2 => ?_)
  · have hf := ite_f hf c2
    refine wa_aload_n hC dX7_would_12 rfl 0 rfl ?_
    refine wa_iload_n hC dX7_would_13 rfl 1 rfl ?_
    obtain ⟨⟨v3, M3⟩, h3, hf⟩ := bd hf
    dsimp only at hf
    refine wa_calli (rest := []) (wr_V hC (kX7_hasBase l G h3) (cwV 1 hC.1.2.2.2.2 gX7_would_X7_hasBase rfl rfl rfl (by decide +kernel) ⟨Nat.le_of_ble_eq_true rfl, Nat.le_of_ble_eq_true rfl⟩) (show kd 96 = 7 from rfl) (by decide) (ce7 (show kd 96 = 7 from rfl)) rfl rfl rfl rfl (Nat.le_of_ble_eq_true rfl) dX7_would_14) ?_
    refine wa_if_eq hC 29 dX7_would_17 (by decide) (fun c4 => ?_) (fun c4 => ?_)
    · have hf := ite_t hf c4
      refine wa_ldc hC mbX7_would_92 dX7_would_29 ?_
      exact wa_iret hC hlk hr (congrArg Prod.fst (so_inj hf)) (congrArg Prod.snd (so_inj hf)) dX7_would_31
    · have hf := ite_f hf c4
      refine wa_aload_n hC dX7_would_20 rfl 0 rfl ?_
      refine wa_iload_n hC dX7_would_21 rfl 2 rfl ?_
      refine wa_iload_n hC dX7_would_22 rfl 3 rfl ?_
      obtain ⟨v5, h5, hf⟩ := bd hf
      refine wa_calli (rest := []) (wr_V hC (kX7_rawOf l G h5) (cwV 2 hC.1.2.2.2.2 gX7_would_X7_rawOf rfl rfl rfl (by decide +kernel) ⟨Nat.le_of_ble_eq_true rfl, Nat.le_of_ble_eq_true rfl⟩) (show kd 96 = 7 from rfl) (by decide) (ce7 (show kd 96 = 7 from rfl)) rfl rfl rfl rfl (Nat.le_of_ble_eq_true rfl) dX7_would_23) ?_
      refine wa_goto hC 31 dX7_would_26 (by decide) ?_
      exact wa_iret hC hlk hr (congrArg Prod.fst (so_inj hf)) (congrArg Prod.snd (so_inj hf)) dX7_would_31
  · have hf := ite_t hf c2
    refine wa_ldc hC mbX7_would_55 dX7_would_9 ?_
    exact wa_iret hC hlk hr (congrArg Prod.fst (so_inj hf)) (congrArg Prod.snd (so_inj hf)) dX7_would_11
abbrev rmX7_pressureFor : Room := { frames := 3, cells := 0, slots := 0, locals := 73 }
theorem mbX7_pressureFor_43 : Cond.constant RX7 43 (50000) ∈ wsX7_pressureFor := by decide +kernel
theorem mbX7_pressureFor_92 : Cond.constant RX7 92 (-2000000004) ∈ wsX7_pressureFor := by decide +kernel
theorem mbX7_pressureFor_55 : Cond.constant RX7 55 (-2000000001) ∈ wsX7_pressureFor := by decide +kernel
theorem mbX7_pressureFor_152 : Cond.constant RX7 152 (-1000000) ∈ wsX7_pressureFor := by decide +kernel
theorem mbX7_pressureFor_153 : Cond.constant RX7 153 (10000000) ∈ wsX7_pressureFor := by decide +kernel
theorem mbX7_pressureFor_44 : Cond.constant RX7 44 (110000) ∈ wsX7_pressureFor := by decide +kernel
set_option maxHeartbeats 4000000 in
set_option maxRecDepth 100000 in
theorem kX7_pressureFor (l : Launch) (G : wG) {x1 : Int32} {x2 : Int32} {x3 : Int32} {M0 M1 : wM} {r : Int32} (hf : fX7_pressureFor x1 x2 x3 M0 = some (r, M1)) : mI l yX7_pressureFor wsX7_pressureFor rmX7_pressureFor G [.ref (ga G (96)), .int (x1), .int (x2), .int (x3)] M0 r M1 := by
  refine mI.of (cc := cX7_pressureFor) (nL := 5) (ret := (some .int)) (own := RX7) (lv := [(0, .ref (ga G (96))), (1, .int (x1)), (2, .int (x2)), (3, .int (x3))]) (plainFor_of_name (by decide +kernel)) rfl rfl (Nat.le_of_ble_eq_true rfl) rfl ?_
  intro p e s m args below meth c hC hr hlk
  have hB53 : ∀ (bk53 : Int32 → wM → Option (Int32 × wM)) (hbk53 : (∀ (x4 : Int32) (M0 : wM), bk53 x4 M0 = some (r, M1) → wAt p l e rmX7_pressureFor s m args below meth c (qI below args s G r M1) 5 G M0 53 [(0, .ref (ga G (96))), (2, .int (x2)), (3, .int (x3)), (4, .int (x4))] [])) (x4 : Int32) (M0 : wM), fX7_pressureFor_B53 x1 x2 x3 bk53 x4 M0 = some (r, M1) → wAt p l e rmX7_pressureFor s m args below meth c (qI below args s G r M1) 5 G M0 53 [(0, .ref (ga G (96))), (2, .int (x2)), (3, .int (x3)), (4, .int (x4))] [] := by
    intro bk53 hbk53 x4 M0 hf
    unfold fX7_pressureFor_B53 at hf
    refine wa_iload hC dX7_pressureFor_53 3 rfl ?_
    refine wa_ldc hC mbX7_pressureFor_43 dX7_pressureFor_55 ?_
    refine wa_icmp_lt hC 80 dX7_pressureFor_57 (by decide) (fun c1 => ?_) (fun c1 => ?_)
    · have hf := ite_t hf c1
      refine wa_ldc hC mbX7_pressureFor_92 dX7_pressureFor_80 ?_
      exact wa_iret hC hlk hr (congrArg Prod.fst (so_inj hf)) (congrArg Prod.snd (so_inj hf)) dX7_pressureFor_82
    · have hf := ite_f hf c1
      refine wa_aload_n hC dX7_pressureFor_60 rfl 0 rfl ?_
      refine wa_iload hC dX7_pressureFor_61 3 rfl ?_
      refine wa_iload_n hC dX7_pressureFor_63 rfl 1 rfl ?_
      obtain ⟨v2, h2, hf⟩ := bd hf
      refine wa_calli (rest := []) (wr_V hC (kX7_rawOf l G h2) (cwV 2 hC.1.2.2.2.2 gX7_pressureFor_X7_rawOf rfl rfl rfl (by decide +kernel) ⟨Nat.le_of_ble_eq_true rfl, Nat.le_of_ble_eq_true rfl⟩) (show kd 96 = 7 from rfl) (by decide) (ce7 (show kd 96 = 7 from rfl)) rfl rfl rfl rfl (Nat.le_of_ble_eq_true rfl) dX7_pressureFor_64) ?_
      refine wa_iload_n hC dX7_pressureFor_67 rfl 2 rfl ?_
      refine wa_icmp_lt hC 74 dX7_pressureFor_68 (by decide) (fun c3 => ?_) (fun c3 => ?_)
      · have hf := ite_t hf c3
        refine wa_iinc (v := _ + -1) (lv' := [(4, .int _), (0, .ref _), (2, .int _), (3, .int _)]) hC dX7_pressureFor_74 (t := 3) rfl rfl (by decide) rfl ?_
        refine wa_goto hC 53 dX7_pressureFor_77 (by decide) ?_
        exact wa_sub [1, 2, 3, 0] rfl (hbk53 _ _ hf)
      · have hf := ite_f hf c3
        refine wa_iload hC dX7_pressureFor_71 3 rfl ?_
        exact wa_iret hC hlk hr (congrArg Prod.fst (so_inj hf)) (congrArg Prod.snd (so_inj hf)) dX7_pressureFor_73
  have hL53 : ∀ (n : Nat) (x4 : Int32) (M0 : wM), fX7_pressureFor_L53 x1 x2 x3  n x4 M0 = some (r, M1) → wAt p l e rmX7_pressureFor s m args below meth c (qI below args s G r M1) 5 G M0 53 [(0, .ref (ga G (96))), (2, .int (x2)), (3, .int (x3)), (4, .int (x4))] [] := by
    intro  n
    induction n with
    | zero =>
      intro x4 M0 hf
      exact absurd hf (by simp [fX7_pressureFor_L53])
    | succ n ih =>
      intro x4 M0 hf
      exact hB53  (fX7_pressureFor_L53 x1 x2 x3  n) ih x4 M0 hf
  unfold fX7_pressureFor at hf
  refine wa_iload_n hC dX7_pressureFor_0 rfl 1 rfl ?_
  refine wa_iconst (v := 0) hC dX7_pressureFor_1 (by decide) ?_
  refine wa_sipush (v := 10000) hC dX7_pressureFor_2 (by decide) ?_
  obtain ⟨v4, h4, hf⟩ := bd hf
  refine wa_calli (rest := []) (wr_S hC (kX7_in l G h4) (va_cwS 3 hC.1.2.2.2.2 gX7_pressureFor_X7_in rfl rfl rfl (by decide +kernel) ⟨Nat.le_of_ble_eq_true rfl, Nat.le_of_ble_eq_true rfl⟩) rfl rfl (Nat.le_of_ble_eq_true rfl) dX7_pressureFor_5) ?_
  refine wa_if_eq hC 35 dX7_pressureFor_8 (by decide) (fun c5 => ?_) (fun c5 => ?_)
  · have hf := ite_t hf c5
    refine wa_ldc hC mbX7_pressureFor_55 dX7_pressureFor_35 ?_
    exact wa_iret hC hlk hr (congrArg Prod.fst (so_inj hf)) (congrArg Prod.snd (so_inj hf)) dX7_pressureFor_37
  · have hf := ite_f hf c5
    refine wa_iload_n hC dX7_pressureFor_11 rfl 2 rfl ?_
    refine wa_sipush (v := -300) hC dX7_pressureFor_12 (by decide) ?_
    refine wa_sipush (v := 500) hC dX7_pressureFor_15 (by decide) ?_
    obtain ⟨v6, h6, hf⟩ := bd hf
    refine wa_calli (rest := []) (wr_S hC (kX7_in l G h6) (va_cwS 3 hC.1.2.2.2.2 gX7_pressureFor_X7_in rfl rfl rfl (by decide +kernel) ⟨Nat.le_of_ble_eq_true rfl, Nat.le_of_ble_eq_true rfl⟩) rfl rfl (Nat.le_of_ble_eq_true rfl) dX7_pressureFor_18) ?_
    refine wa_if_eq hC 35 dX7_pressureFor_21 (by decide) (fun c7 => ?_) (fun c7 => ?_)
    · have hf := ite_t hf c7
      refine wa_ldc hC mbX7_pressureFor_55 dX7_pressureFor_35 ?_
      exact wa_iret hC hlk hr (congrArg Prod.fst (so_inj hf)) (congrArg Prod.snd (so_inj hf)) dX7_pressureFor_37
    · have hf := ite_f hf c7
      refine wa_iload_n hC dX7_pressureFor_24 rfl 3 rfl ?_
      refine wa_ldc hC mbX7_pressureFor_152 dX7_pressureFor_25 ?_
      refine wa_ldc hC mbX7_pressureFor_153 dX7_pressureFor_27 ?_
      obtain ⟨v8, h8, hf⟩ := bd hf
      refine wa_calli (rest := []) (wr_S hC (kX7_in l G h8) (va_cwS 3 hC.1.2.2.2.2 gX7_pressureFor_X7_in rfl rfl rfl (by decide +kernel) ⟨Nat.le_of_ble_eq_true rfl, Nat.le_of_ble_eq_true rfl⟩) rfl rfl (Nat.le_of_ble_eq_true rfl) dX7_pressureFor_29) ?_
      refine wa_if_ne hC 38 dX7_pressureFor_32 (by decide) (fun c9 => ?_) (fun c9 => ?_)
      · have hf := ite_f hf c9
        refine wa_aload_n hC dX7_pressureFor_38 rfl 0 rfl ?_
        refine wa_iload_n hC dX7_pressureFor_39 rfl 1 rfl ?_
        obtain ⟨⟨v10, M10⟩, h10, hf⟩ := bd hf
        dsimp only at hf
        refine wa_calli (rest := []) (wr_V hC (kX7_hasBase l G h10) (cwV 1 hC.1.2.2.2.2 gX7_pressureFor_X7_hasBase rfl rfl rfl (by decide +kernel) ⟨Nat.le_of_ble_eq_true rfl, Nat.le_of_ble_eq_true rfl⟩) (show kd 96 = 7 from rfl) (by decide) (ce7 (show kd 96 = 7 from rfl)) rfl rfl rfl rfl (Nat.le_of_ble_eq_true rfl) dX7_pressureFor_40) ?_
        refine wa_if_ne hC 49 dX7_pressureFor_43 (by decide) (fun c11 => ?_) (fun c11 => ?_)
        · have hf := ite_f hf c11
          refine wa_ldc hC mbX7_pressureFor_44 dX7_pressureFor_49 ?_
          refine wa_istore (lv' := [(4, .int _), (0, .ref _), (1, .int _), (2, .int _), (3, .int _)]) hC dX7_pressureFor_51 (by decide) rfl ?_
          exact wa_sub [1, 3, 4, 0] rfl (hL53 FU _ _ hf)
        · have hf := ite_t hf c11
          refine wa_ldc hC mbX7_pressureFor_92 dX7_pressureFor_46 ?_
          exact wa_iret hC hlk hr (congrArg Prod.fst (so_inj hf)) (congrArg Prod.snd (so_inj hf)) dX7_pressureFor_48
      · have hf := ite_t hf c9
        refine wa_ldc hC mbX7_pressureFor_55 dX7_pressureFor_35 ?_
        exact wa_iret hC hlk hr (congrArg Prod.fst (so_inj hf)) (congrArg Prod.snd (so_inj hf)) dX7_pressureFor_37
abbrev rmX7_loops : Room := { frames := 4, cells := 0, slots := 0, locals := 96 }
theorem fiX7_loops_7 : ∀ w ∈ u_ws RX7 TX7 21, w ∈ wsX7_loops := by decide +kernel
theorem mbX7_loops_104 : Cond.fieldLink RX7 104 "BaroRunsModel" "loops" "I" ∈ wsX7_loops := by decide +kernel
theorem mbX7_loops_55 : Cond.constant RX7 55 (-2000000001) ∈ wsX7_loops := by decide +kernel
set_option maxHeartbeats 4000000 in
set_option maxRecDepth 100000 in
theorem kX7_loops (l : Launch) (G : wG) {x1 : Int32} {M0 M1 : wM} {r : Int32} (hf : fX7_loops x1 M0 = some (r, M1)) : mI l yX7_loops wsX7_loops rmX7_loops G [.ref (ga G (96)), .int (x1)] M0 r M1 := by
  refine mI.of (cc := cX7_loops) (nL := 2) (ret := (some .int)) (own := RX7) (lv := [(0, .ref (ga G (96))), (1, .int (x1))]) (plainFor_of_name (by decide +kernel)) rfl rfl (Nat.le_of_ble_eq_true rfl) rfl ?_
  intro p e s m args below meth c hC hr hlk
  unfold fX7_loops at hf
  refine wa_iload_n hC dX7_loops_0 rfl 1 rfl ?_
  obtain ⟨v1, h1, hf⟩ := bd hf
  refine wa_calli (rest := []) (wr_S hC (kX7_isCell l G h1) (va_cwS 1 hC.1.2.2.2.2 gX7_loops_X7_isCell rfl rfl rfl (by decide +kernel) ⟨Nat.le_of_ble_eq_true rfl, Nat.le_of_ble_eq_true rfl⟩) rfl rfl (Nat.le_of_ble_eq_true rfl) dX7_loops_1) ?_
  refine wa_if_ne hC 10 dX7_loops_4 (by decide) (fun c2 => ?_) (fun c2 => ?_)
  · have hf := ite_f hf c2
    refine wa_aload_n hC dX7_loops_10 rfl 0 rfl ?_
    refine wa_iload_n hC dX7_loops_11 rfl 1 rfl ?_
    refine wa_iconst (v := 1) hC dX7_loops_12 (by decide) ?_
    refine wa_iadd hC dX7_loops_13 ?_
    obtain ⟨M3, h3, hf⟩ := bd hf
    refine wa_callv (rest := []) (wr_V hC (kX7_looks l G h3) (cwV 1 hC.1.2.2.2.2 gX7_loops_X7_looks rfl rfl rfl (by decide +kernel) ⟨Nat.le_of_ble_eq_true rfl, Nat.le_of_ble_eq_true rfl⟩) (show kd 96 = 7 from rfl) (by decide) (ce7 (show kd 96 = 7 from rfl)) rfl rfl rfl rfl (Nat.le_of_ble_eq_true rfl) dX7_loops_14) ?_
    refine wa_aload_n hC dX7_loops_17 rfl 0 rfl ?_
    refine rg7_14 hC fiX7_loops_7 mbX7_loops_104 dX7_loops_18 ?_
    exact wa_iret hC hlk hr (congrArg Prod.fst (so_inj hf)) (congrArg Prod.snd (so_inj hf)) dX7_loops_21
  · have hf := ite_t hf c2
    refine wa_ldc hC mbX7_loops_55 dX7_loops_7 ?_
    exact wa_iret hC hlk hr (congrArg Prod.fst (so_inj hf)) (congrArg Prod.snd (so_inj hf)) dX7_loops_9
abbrev rmX7_bySteps : Room := { frames := 0, cells := 0, slots := 0, locals := 0 }
theorem fiX7_bySteps_7 : ∀ w ∈ u_ws RX7 TX7 21, w ∈ wsX7_bySteps := by decide +kernel
theorem mbX7_bySteps_36 : Cond.fieldLink RX7 36 "BaroRunsModel" "end" "[I" ∈ wsX7_bySteps := by decide +kernel
theorem mbX7_bySteps_29 : Cond.fieldLink RX7 29 "BaroRunsModel" "isGood" "[Z" ∈ wsX7_bySteps := by decide +kernel
theorem mbX7_bySteps_26 : Cond.fieldLink RX7 26 "BaroRunsModel" "raws" "[I" ∈ wsX7_bySteps := by decide +kernel
theorem mbX7_bySteps_33 : Cond.fieldLink RX7 33 "BaroRunsModel" "begin" "[I" ∈ wsX7_bySteps := by decide +kernel
set_option maxHeartbeats 4000000 in
set_option maxRecDepth 100000 in
theorem kX7_bySteps (l : Launch) (G : wG) {x1 : Int32} {M0 : wM} {r : Int32} (hf : fX7_bySteps x1 M0 = some r) : mI l yX7_bySteps wsX7_bySteps rmX7_bySteps G [.ref (ga G (96)), .int (x1)] M0 r M0 := by
  refine mI.of (cc := cX7_bySteps) (nL := 5) (ret := (some .int)) (own := RX7) (lv := [(0, .ref (ga G (96))), (1, .int (x1))]) (plainFor_of_name (by decide +kernel)) rfl rfl (Nat.le_of_ble_eq_true rfl) rfl ?_
  intro p e s m args below meth c hC hr hlk
  have hB19 : ∀ (bk19 : Int32 → Int32 → Int32 → Option Int32) (hbk19 : (∀ (x2 : Int32) (x3 : Int32) (x4 : Int32), bk19 x2 x3 x4 = some r → wAt p l e rmX7_bySteps s m args below meth c (qI below args s G r M0) 5 G M0 19 [(0, .ref (ga G (96))), (1, .int (x1)), (2, .int (x2)), (3, .int (x3)), (4, .int (x4))] [])) (x2 : Int32) (x3 : Int32) (x4 : Int32), fX7_bySteps_B19 x1 M0 bk19 x2 x3 x4 = some r → wAt p l e rmX7_bySteps s m args below meth c (qI below args s G r M0) 5 G M0 19 [(0, .ref (ga G (96))), (1, .int (x1)), (2, .int (x2)), (3, .int (x3)), (4, .int (x4))] [] := by
    intro bk19 hbk19 x2 x3 x4 hf
    unfold fX7_bySteps_B19 at hf
    refine wa_iload hC dX7_bySteps_19 4 rfl ?_
    refine wa_aload_n hC dX7_bySteps_21 rfl 0 rfl ?_
    refine rg7_13 hC fiX7_bySteps_7 mbX7_bySteps_36 dX7_bySteps_22 ?_
    refine wa_iload_n hC dX7_bySteps_25 rfl 1 rfl ?_
    obtain ⟨k1, h1, hf⟩ := bd hf
    obtain ⟨hv1, rfl⟩ := ix_some h1
    refine wa_iald hC (show kd 105 = 20 from rfl) hv1 dX7_bySteps_26 ?_
    refine wa_icmp_gt hC 66 dX7_bySteps_27 (by decide) (fun c2 => ?_) (fun c2 => ?_)
    · have hf := ite_t hf c2
      refine wa_iload_n hC dX7_bySteps_66 rfl 2 rfl ?_
      exact wa_iret hC hlk hr (so_inj hf) rfl dX7_bySteps_67
    · have hf := ite_f hf c2
      refine wa_aload_n hC dX7_bySteps_30 rfl 0 rfl ?_
      refine rg7_11 hC fiX7_bySteps_7 mbX7_bySteps_29 dX7_bySteps_31 ?_
      refine wa_iload hC dX7_bySteps_34 4 rfl ?_
      obtain ⟨k3, h3, hf⟩ := bd hf
      obtain ⟨hv3, rfl⟩ := ix_some h3
      refine wa_zald hC (show kd 103 = 22 from rfl) hv3 dX7_bySteps_36 ?_
      refine wa_if_eq hC 60 dX7_bySteps_37 (by decide) (fun c4 => ?_) (fun c4 => ?_)
      · have hf := ite_t hf c4
        refine wa_iinc (v := _ + 1) (lv' := [(4, .int _), (0, .ref _), (1, .int _), (2, .int _), (3, .int _)]) hC dX7_bySteps_60 (t := 4) rfl rfl (by decide) rfl ?_
        refine wa_goto hC 19 dX7_bySteps_63 (by decide) ?_
        exact wa_sub [1, 2, 3, 4, 0] rfl (hbk19 _ _ _ hf)
      · have hf := ite_f hf c4
        refine wa_iload_n hC dX7_bySteps_40 rfl 2 rfl ?_
        refine wa_aload_n hC dX7_bySteps_41 rfl 0 rfl ?_
        refine rg7_10 hC fiX7_bySteps_7 mbX7_bySteps_26 dX7_bySteps_42 ?_
        refine wa_iload hC dX7_bySteps_45 4 rfl ?_
        obtain ⟨k5, h5, hf⟩ := bd hf
        obtain ⟨hv5, rfl⟩ := ix_some h5
        refine wa_iald hC (show kd 102 = 20 from rfl) hv5 dX7_bySteps_47 ?_
        refine wa_aload_n hC dX7_bySteps_48 rfl 0 rfl ?_
        refine rg7_10 hC fiX7_bySteps_7 mbX7_bySteps_26 dX7_bySteps_49 ?_
        refine wa_iload_n hC dX7_bySteps_52 rfl 3 rfl ?_
        obtain ⟨k6, h6, hf⟩ := bd hf
        obtain ⟨hv6, rfl⟩ := ix_some h6
        refine wa_iald hC (show kd 102 = 20 from rfl) hv6 dX7_bySteps_53 ?_
        refine wa_isub hC dX7_bySteps_54 ?_
        refine wa_iadd hC dX7_bySteps_55 ?_
        refine wa_istore_n (lv' := [(2, .int _), (0, .ref _), (1, .int _), (3, .int _), (4, .int _)]) hC dX7_bySteps_56 rfl (by decide) rfl ?_
        refine wa_iload hC dX7_bySteps_57 4 rfl ?_
        refine wa_istore_n (lv' := [(3, .int _), (2, .int _), (0, .ref _), (1, .int _), (4, .int _)]) hC dX7_bySteps_59 rfl (by decide) rfl ?_
        refine wa_iinc (v := _ + 1) (lv' := [(4, .int _), (3, .int _), (2, .int _), (0, .ref _), (1, .int _)]) hC dX7_bySteps_60 (t := 4) rfl rfl (by decide) rfl ?_
        refine wa_goto hC 19 dX7_bySteps_63 (by decide) ?_
        exact wa_sub [3, 4, 2, 1, 0] rfl (hbk19 _ _ _ hf)
  have hL19 : ∀ (n : Nat) (x2 : Int32) (x3 : Int32) (x4 : Int32), fX7_bySteps_L19 x1 M0  n x2 x3 x4 = some r → wAt p l e rmX7_bySteps s m args below meth c (qI below args s G r M0) 5 G M0 19 [(0, .ref (ga G (96))), (1, .int (x1)), (2, .int (x2)), (3, .int (x3)), (4, .int (x4))] [] := by
    intro  n
    induction n with
    | zero =>
      intro x2 x3 x4 hf
      exact absurd hf (by simp [fX7_bySteps_L19])
    | succ n ih =>
      intro x2 x3 x4 hf
      exact hB19  (fX7_bySteps_L19 x1 M0  n) ih x2 x3 x4 hf
  unfold fX7_bySteps at hf
  refine wa_iconst (v := 0) hC dX7_bySteps_0 (by decide) ?_
  refine wa_istore_n (lv' := [(2, .int _), (0, .ref _), (1, .int _)]) hC dX7_bySteps_1 rfl (by decide) rfl ?_
  refine wa_aload_n hC dX7_bySteps_2 rfl 1 rfl ?_
  refine rg7_12 hC fiX7_bySteps_7 mbX7_bySteps_33 dX7_bySteps_3 ?_
  refine wa_iload_n hC dX7_bySteps_6 rfl 2 rfl ?_
  obtain ⟨k7, h7, hf⟩ := bd hf
  obtain ⟨hv7, rfl⟩ := ix_some h7
  refine wa_iald hC (show kd 104 = 20 from rfl) hv7 dX7_bySteps_7 ?_
  refine wa_istore_n (lv' := [(3, .int _), (2, .int _), (0, .ref _), (1, .int _)]) hC dX7_bySteps_8 rfl (by decide) rfl ?_
  refine wa_aload_n hC dX7_bySteps_9 rfl 2 rfl ?_
  refine rg7_12 hC fiX7_bySteps_7 mbX7_bySteps_33 dX7_bySteps_10 ?_
  refine wa_iload_n hC dX7_bySteps_13 rfl 3 rfl ?_
  obtain ⟨k8, h8, hf⟩ := bd hf
  obtain ⟨hv8, rfl⟩ := ix_some h8
  refine wa_iald hC (show kd 104 = 20 from rfl) hv8 dX7_bySteps_14 ?_
  refine wa_iconst (v := 1) hC dX7_bySteps_15 (by decide) ?_
  refine wa_iadd hC dX7_bySteps_16 ?_
  refine wa_istore (lv' := [(4, .int _), (3, .int _), (2, .int _), (0, .ref _), (1, .int _)]) hC dX7_bySteps_17 (by decide) rfl ?_
  exact wa_sub [3, 4, 2, 1, 0] rfl (hL19 FU _ _ _ hf)
abbrev rmX7_loop : Room := { frames := 4, cells := 0, slots := 0, locals := 96 }
theorem fiX7_loop_7 : ∀ w ∈ u_ws RX7 TX7 21, w ∈ wsX7_loop := by decide +kernel
theorem mbX7_loop_55 : Cond.constant RX7 55 (-2000000001) ∈ wsX7_loop := by decide +kernel
theorem mbX7_loop_104 : Cond.fieldLink RX7 104 "BaroRunsModel" "loops" "I" ∈ wsX7_loop := by decide +kernel
theorem mbX7_loop_33 : Cond.fieldLink RX7 33 "BaroRunsModel" "begin" "[I" ∈ wsX7_loop := by decide +kernel
theorem mbX7_loop_36 : Cond.fieldLink RX7 36 "BaroRunsModel" "end" "[I" ∈ wsX7_loop := by decide +kernel
theorem mbX7_loop_26 : Cond.fieldLink RX7 26 "BaroRunsModel" "raws" "[I" ∈ wsX7_loop := by decide +kernel
set_option maxHeartbeats 4000000 in
set_option maxRecDepth 100000 in
theorem kX7_loop (l : Launch) (G : wG) {x1 : Int32} {x2 : Int32} {x3 : Int32} {M0 M1 : wM} {r : Int32} (hf : fX7_loop x1 x2 x3 M0 = some (r, M1)) : mI l yX7_loop wsX7_loop rmX7_loop G [.ref (ga G (96)), .int (x1), .int (x2), .int (x3)] M0 r M1 := by
  refine mI.of (cc := cX7_loop) (nL := 4) (ret := (some .int)) (own := RX7) (lv := [(0, .ref (ga G (96))), (1, .int (x1)), (2, .int (x2)), (3, .int (x3))]) (plainFor_of_name (by decide +kernel)) rfl rfl (Nat.le_of_ble_eq_true rfl) rfl ?_
  intro p e s m args below meth c hC hr hlk
  unfold fX7_loop at hf
  refine wa_iload_n hC dX7_loop_0 rfl 1 rfl ?_
  obtain ⟨v1, h1, hf⟩ := bd hf
  refine wa_calli (rest := []) (wr_S hC (kX7_isCell l G h1) (va_cwS 1 hC.1.2.2.2.2 gX7_loop_X7_isCell rfl rfl rfl (by decide +kernel) ⟨Nat.le_of_ble_eq_true rfl, Nat.le_of_ble_eq_true rfl⟩) rfl rfl (Nat.le_of_ble_eq_true rfl) dX7_loop_1) ?_
  refine wa_if_eq hC 16 dX7_loop_4 (by decide) (fun c2 => ?_) (fun c2 => ?_)
  · have hf := ite_t hf c2
    refine wa_ldc hC mbX7_loop_55 dX7_loop_16 ?_
    exact wa_iret hC hlk hr (congrArg Prod.fst (so_inj hf)) (congrArg Prod.snd (so_inj hf)) dX7_loop_18
  · have hf := ite_f hf c2
    refine wa_iload_n hC dX7_loop_7 rfl 3 rfl ?_
    refine wa_iconst (v := 0) hC dX7_loop_8 (by decide) ?_
    refine wa_iconst (v := 4) hC dX7_loop_9 (by decide) ?_
    obtain ⟨v3, h3, hf⟩ := bd hf
    refine wa_calli (rest := []) (wr_S hC (kX7_in l G h3) (va_cwS 3 hC.1.2.2.2.2 gX7_loop_X7_in rfl rfl rfl (by decide +kernel) ⟨Nat.le_of_ble_eq_true rfl, Nat.le_of_ble_eq_true rfl⟩) rfl rfl (Nat.le_of_ble_eq_true rfl) dX7_loop_10) ?_
    refine wa_if_ne hC 19 dX7_loop_13 (by decide) (fun c4 => ?_) (fun c4 => ?_)
    · have hf := ite_f hf c4
      refine wa_aload_n hC dX7_loop_19 rfl 0 rfl ?_
      refine wa_iload_n hC dX7_loop_20 rfl 1 rfl ?_
      refine wa_iconst (v := 1) hC dX7_loop_21 (by decide) ?_
      refine wa_iadd hC dX7_loop_22 ?_
      obtain ⟨M5, h5, hf⟩ := bd hf
      refine wa_callv (rest := []) (wr_V hC (kX7_looks l G h5) (cwV 1 hC.1.2.2.2.2 gX7_loop_X7_looks rfl rfl rfl (by decide +kernel) ⟨Nat.le_of_ble_eq_true rfl, Nat.le_of_ble_eq_true rfl⟩) (show kd 96 = 7 from rfl) (by decide) (ce7 (show kd 96 = 7 from rfl)) rfl rfl rfl rfl (Nat.le_of_ble_eq_true rfl) dX7_loop_23) ?_
      refine wa_iload_n hC dX7_loop_26 rfl 2 rfl ?_
      refine wa_iconst (v := 0) hC dX7_loop_27 (by decide) ?_
      refine wa_aload_n hC dX7_loop_28 rfl 0 rfl ?_
      refine rg7_14 hC fiX7_loop_7 mbX7_loop_104 dX7_loop_29 ?_
      refine wa_iconst (v := 1) hC dX7_loop_32 (by decide) ?_
      refine wa_isub hC dX7_loop_33 ?_
      obtain ⟨v6, h6, hf⟩ := bd hf
      refine wa_calli (rest := []) (wr_S hC (kX7_in l G h6) (va_cwS 3 hC.1.2.2.2.2 gX7_loop_X7_in rfl rfl rfl (by decide +kernel) ⟨Nat.le_of_ble_eq_true rfl, Nat.le_of_ble_eq_true rfl⟩) rfl rfl (Nat.le_of_ble_eq_true rfl) dX7_loop_34) ?_
      refine wa_if_ne hC 43 dX7_loop_37 (by decide) (fun c7 => ?_) (fun c7 => ?_)
      · have hf := ite_f hf c7
        refine wa_iload_n hC dX7_loop_43 rfl 3 rfl ?_
        refine ite_e hf (fun c8 hf => ?_) (fun c8 hf => ?_)
        · skip
          refine wa_tableIn (off := 32) hC 76 dX7_loop_44 (by rw [c8]; decide) (by rw [c8]; decide) (by rw [c8] <;> decide) (by decide) ?_
          refine wa_aload_n hC dX7_loop_76 rfl 0 rfl ?_
          refine rg7_12 hC fiX7_loop_7 mbX7_loop_33 dX7_loop_77 ?_
          refine wa_iload_n hC dX7_loop_80 rfl 2 rfl ?_
          obtain ⟨k9, h9, hf⟩ := bd hf
          obtain ⟨hv9, rfl⟩ := ix_some h9
          refine wa_iald hC (show kd 104 = 20 from rfl) hv9 dX7_loop_81 ?_
          exact wa_iret hC hlk hr (congrArg Prod.fst (so_inj hf)) (congrArg Prod.snd (so_inj hf)) dX7_loop_82
        · skip
          refine ite_e hf (fun c10 hf => ?_) (fun c10 hf => ?_)
          · skip
            refine wa_tableIn (off := 39) hC 83 dX7_loop_44 (by rw [c10]; decide) (by rw [c10]; decide) (by rw [c10] <;> decide) (by decide) ?_
            refine wa_aload_n hC dX7_loop_83 rfl 0 rfl ?_
            refine rg7_13 hC fiX7_loop_7 mbX7_loop_36 dX7_loop_84 ?_
            refine wa_iload_n hC dX7_loop_87 rfl 2 rfl ?_
            obtain ⟨k11, h11, hf⟩ := bd hf
            obtain ⟨hv11, rfl⟩ := ix_some h11
            refine wa_iald hC (show kd 105 = 20 from rfl) hv11 dX7_loop_88 ?_
            exact wa_iret hC hlk hr (congrArg Prod.fst (so_inj hf)) (congrArg Prod.snd (so_inj hf)) dX7_loop_89
          · skip
            refine ite_e hf (fun c12 hf => ?_) (fun c12 hf => ?_)
            · skip
              refine wa_tableIn (off := 46) hC 90 dX7_loop_44 (by rw [c12]; decide) (by rw [c12]; decide) (by rw [c12] <;> decide) (by decide) ?_
              refine wa_aload_n hC dX7_loop_90 rfl 0 rfl ?_
              refine rg7_10 hC fiX7_loop_7 mbX7_loop_26 dX7_loop_91 ?_
              refine wa_aload_n hC dX7_loop_94 rfl 0 rfl ?_
              refine rg7_13 hC fiX7_loop_7 mbX7_loop_36 dX7_loop_95 ?_
              refine wa_iload_n hC dX7_loop_98 rfl 2 rfl ?_
              obtain ⟨k13, h13, hf⟩ := bd hf
              obtain ⟨hv13, rfl⟩ := ix_some h13
              refine wa_iald hC (show kd 105 = 20 from rfl) hv13 dX7_loop_99 ?_
              obtain ⟨k14, h14, hf⟩ := bd hf
              obtain ⟨hv14, rfl⟩ := ix_some h14
              refine wa_iald hC (show kd 102 = 20 from rfl) hv14 dX7_loop_100 ?_
              refine wa_aload_n hC dX7_loop_101 rfl 0 rfl ?_
              refine rg7_10 hC fiX7_loop_7 mbX7_loop_26 dX7_loop_102 ?_
              refine wa_aload_n hC dX7_loop_105 rfl 0 rfl ?_
              refine rg7_12 hC fiX7_loop_7 mbX7_loop_33 dX7_loop_106 ?_
              refine wa_iload_n hC dX7_loop_109 rfl 2 rfl ?_
              obtain ⟨k15, h15, hf⟩ := bd hf
              obtain ⟨hv15, rfl⟩ := ix_some h15
              refine wa_iald hC (show kd 104 = 20 from rfl) hv15 dX7_loop_110 ?_
              obtain ⟨k16, h16, hf⟩ := bd hf
              obtain ⟨hv16, rfl⟩ := ix_some h16
              refine wa_iald hC (show kd 102 = 20 from rfl) hv16 dX7_loop_111 ?_
              refine wa_isub hC dX7_loop_112 ?_
              exact wa_iret hC hlk hr (congrArg Prod.fst (so_inj hf)) (congrArg Prod.snd (so_inj hf)) dX7_loop_113
            · skip
              refine ite_e hf (fun c17 hf => ?_) (fun c17 hf => ?_)
              · skip
                refine wa_tableIn (off := 70) hC 114 dX7_loop_44 (by rw [c17]; decide) (by rw [c17]; decide) (by rw [c17] <;> decide) (by decide) ?_
                refine wa_aload_n hC dX7_loop_114 rfl 0 rfl ?_
                refine wa_iload_n hC dX7_loop_115 rfl 2 rfl ?_
                obtain ⟨v18, h18, hf⟩ := bd hf
                refine wa_calli (rest := []) (wr_V hC (kX7_bySteps l G h18) (cwV 1 hC.1.2.2.2.2 gX7_loop_X7_bySteps rfl rfl rfl (by decide +kernel) ⟨Nat.le_of_ble_eq_true rfl, Nat.le_of_ble_eq_true rfl⟩) (show kd 96 = 7 from rfl) (by decide) (ce7 (show kd 96 = 7 from rfl)) rfl rfl rfl rfl (Nat.le_of_ble_eq_true rfl) dX7_loop_116) ?_
                exact wa_iret hC hlk hr (congrArg Prod.fst (so_inj hf)) (congrArg Prod.snd (so_inj hf)) dX7_loop_119
              · skip
                have n8 := ti_ne c8 (a := 0) (by decide)
                have n10 := ti_ne c10 (a := 1) (by decide)
                have n12 := ti_ne c12 (a := 2) (by decide)
                have n17 := ti_ne c17 (a := 3) (by decide)
                refine wa_tableOut hC 120 dX7_loop_44 (by omega) (by decide) ?_
                refine wa_aload_n hC dX7_loop_120 rfl 0 rfl ?_
                refine wa_iload_n hC dX7_loop_121 rfl 1 rfl ?_
                refine wa_iconst (v := 1) hC dX7_loop_122 (by decide) ?_
                refine wa_iadd hC dX7_loop_123 ?_
                refine wa_iload_n hC dX7_loop_124 rfl 2 rfl ?_
                obtain ⟨v19, h19, hf⟩ := bd hf
                refine wa_calli (rest := []) (wr_V hC (kX7_timeOf l G h19) (cwV 2 hC.1.2.2.2.2 gX7_loop_X7_timeOf rfl rfl rfl (by decide +kernel) ⟨Nat.le_of_ble_eq_true rfl, Nat.le_of_ble_eq_true rfl⟩) (show kd 96 = 7 from rfl) (by decide) (ce7 (show kd 96 = 7 from rfl)) rfl rfl rfl rfl (Nat.le_of_ble_eq_true rfl) dX7_loop_125) ?_
                exact wa_iret hC hlk hr (congrArg Prod.fst (so_inj hf)) (congrArg Prod.snd (so_inj hf)) dX7_loop_128
      · have hf := ite_t hf c7
        refine wa_ldc hC mbX7_loop_55 dX7_loop_40 ?_
        exact wa_iret hC hlk hr (congrArg Prod.fst (so_inj hf)) (congrArg Prod.snd (so_inj hf)) dX7_loop_42
    · have hf := ite_t hf c4
      refine wa_ldc hC mbX7_loop_55 dX7_loop_16 ?_
      exact wa_iret hC hlk hr (congrArg Prod.fst (so_inj hf)) (congrArg Prod.snd (so_inj hf)) dX7_loop_18
abbrev rmX7_openLoop : Room := { frames := 4, cells := 0, slots := 0, locals := 96 }
theorem fiX7_openLoop_7 : ∀ w ∈ u_ws RX7 TX7 21, w ∈ wsX7_openLoop := by decide +kernel
theorem mbX7_openLoop_92 : Cond.constant RX7 92 (-2000000004) ∈ wsX7_openLoop := by decide +kernel
theorem mbX7_openLoop_55 : Cond.constant RX7 55 (-2000000001) ∈ wsX7_openLoop := by decide +kernel
theorem mbX7_openLoop_29 : Cond.fieldLink RX7 29 "BaroRunsModel" "isGood" "[Z" ∈ wsX7_openLoop := by decide +kernel
set_option maxHeartbeats 4000000 in
set_option maxRecDepth 100000 in
theorem kX7_openLoop (l : Launch) (G : wG) {x1 : Int32} {x2 : Int32} {M0 M1 : wM} {r : Int32} (hf : fX7_openLoop x1 x2 M0 = some (r, M1)) : mI l yX7_openLoop wsX7_openLoop rmX7_openLoop G [.ref (ga G (96)), .int (x1), .int (x2)] M0 r M1 := by
  refine mI.of (cc := cX7_openLoop) (nL := 4) (ret := (some .int)) (own := RX7) (lv := [(0, .ref (ga G (96))), (1, .int (x1)), (2, .int (x2))]) (plainFor_of_name (by decide +kernel)) rfl rfl (Nat.le_of_ble_eq_true rfl) rfl ?_
  intro p e s m args below meth c hC hr hlk
  have hJ47 : ∀ (s0 : Int32) (M0 : wM), fX7_openLoop_J47 x1 x2  s0 M0 = some (r, M1) → wAt p l e rmX7_openLoop s m args below meth c (qI below args s G r M1) 4 G M0 47 [] [.int (s0)] := by
    intro  s0 M0 hf
    unfold fX7_openLoop_J47 at hf
    refine wa_istore_n (lv' := [(3, .int _)]) hC dX7_openLoop_47 rfl (by decide) rfl ?_
    refine wa_iload_n hC dX7_openLoop_48 rfl 0 rfl ?_
    refine wa_iconst (v := -1) hC dX7_openLoop_49 (by decide) ?_
    refine wa_icmp_ne hC 58 dX7_openLoop_50 (by decide) (fun c1 => ?_) (fun c1 => ?_)
    · have hf := ite_f hf c1
      refine wa_iload_n hC dX7_openLoop_58 rfl 0 rfl ?_
      exact wa_iret hC hlk hr (congrArg Prod.fst (so_inj hf)) (congrArg Prod.snd (so_inj hf)) dX7_openLoop_59
    · have hf := ite_t hf c1
      refine wa_ldc hC mbX7_openLoop_92 dX7_openLoop_53 ?_
      refine wa_goto hC 59 dX7_openLoop_55 (by decide) ?_
      exact wa_iret hC hlk hr (congrArg Prod.fst (so_inj hf)) (congrArg Prod.snd (so_inj hf)) dX7_openLoop_59
  unfold fX7_openLoop at hf
  refine wa_iload_n hC dX7_openLoop_0 rfl 1 rfl ?_
  obtain ⟨v2, h2, hf⟩ := bd hf
  refine wa_calli (rest := []) (wr_S hC (kX7_isCell l G h2) (va_cwS 1 hC.1.2.2.2.2 gX7_openLoop_X7_isCell rfl rfl rfl (by decide +kernel) ⟨Nat.le_of_ble_eq_true rfl, Nat.le_of_ble_eq_true rfl⟩) rfl rfl (Nat.le_of_ble_eq_true rfl) dX7_openLoop_1) ?_
  refine wa_if_eq hC 16 dX7_openLoop_4 (by decide) (fun c3 => ?_) (fun c3 => ?_)
  · have hf := ite_t hf c3
    refine wa_ldc hC mbX7_openLoop_55 dX7_openLoop_16 ?_
    exact wa_iret hC hlk hr (congrArg Prod.fst (so_inj hf)) (congrArg Prod.snd (so_inj hf)) dX7_openLoop_18
  · have hf := ite_f hf c3
    refine wa_aload_n hC dX7_openLoop_7 rfl 0 rfl ?_
    refine wa_iload_n hC dX7_openLoop_8 rfl 1 rfl ?_
    refine wa_iload_n hC dX7_openLoop_9 rfl 2 rfl ?_
    obtain ⟨v4, h4, hf⟩ := bd hf
    refine wa_calli (rest := []) (wr_V hC (kX7_isReading l G h4) (cwV 2 hC.1.2.2.2.2 gX7_openLoop_X7_isReading rfl rfl rfl (by decide +kernel) ⟨Nat.le_of_ble_eq_true rfl, Nat.le_of_ble_eq_true rfl⟩) (show kd 96 = 7 from rfl) (by decide) (ce7 (show kd 96 = 7 from rfl)) rfl rfl rfl rfl (Nat.le_of_ble_eq_true rfl) dX7_openLoop_10) ?_
    refine wa_if_ne hC 19 dX7_openLoop_13 (by decide) (fun c5 => ?_) (fun c5 => ?_)
    · have hf := ite_f hf c5
      refine wa_aload_n hC dX7_openLoop_19 rfl 0 rfl ?_
      refine wa_iload_n hC dX7_openLoop_20 rfl 1 rfl ?_
      refine wa_iconst (v := 1) hC dX7_openLoop_21 (by decide) ?_
      refine wa_iadd hC dX7_openLoop_22 ?_
      obtain ⟨M6, h6, hf⟩ := bd hf
      refine wa_callv (rest := []) (wr_V hC (kX7_looks l G h6) (cwV 1 hC.1.2.2.2.2 gX7_openLoop_X7_looks rfl rfl rfl (by decide +kernel) ⟨Nat.le_of_ble_eq_true rfl, Nat.le_of_ble_eq_true rfl⟩) (show kd 96 = 7 from rfl) (by decide) (ce7 (show kd 96 = 7 from rfl)) rfl rfl rfl rfl (Nat.le_of_ble_eq_true rfl) dX7_openLoop_23) ?_
      refine wa_aload_n hC dX7_openLoop_26 rfl 0 rfl ?_
      refine rg7_11 hC fiX7_openLoop_7 mbX7_openLoop_29 dX7_openLoop_27 ?_
      refine wa_iload_n hC dX7_openLoop_30 rfl 2 rfl ?_
      obtain ⟨k7, h7, hf⟩ := bd hf
      obtain ⟨hv7, rfl⟩ := ix_some h7
      refine wa_zald hC (show kd 103 = 22 from rfl) hv7 dX7_openLoop_31 ?_
      refine wa_if_eq hC 46 dX7_openLoop_32 (by decide) (fun c8 => ?_) (fun c8 => ?_)
      · have hf := ite_t hf c8
        refine wa_iconst (v := -1) hC dX7_openLoop_46 (by decide) ?_
        exact wa_sub [] rfl (hJ47  _ _ hf)
      · have hf := ite_f hf c8
        refine wa_aload_n hC dX7_openLoop_35 rfl 0 rfl ?_
        refine wa_iload_n hC dX7_openLoop_36 rfl 1 rfl ?_
        refine wa_iconst (v := 1) hC dX7_openLoop_37 (by decide) ?_
        refine wa_iadd hC dX7_openLoop_38 ?_
        refine wa_iload_n hC dX7_openLoop_39 rfl 2 rfl ?_
        obtain ⟨v9, h9, hf⟩ := bd hf
        refine wa_calli (rest := []) (wr_V hC (kX7_open l G h9) (cwV 2 hC.1.2.2.2.2 gX7_openLoop_X7_open rfl rfl rfl (by decide +kernel) ⟨Nat.le_of_ble_eq_true rfl, Nat.le_of_ble_eq_true rfl⟩) (show kd 96 = 7 from rfl) (by decide) (ce7 (show kd 96 = 7 from rfl)) rfl rfl rfl rfl (Nat.le_of_ble_eq_true rfl) dX7_openLoop_40) ?_
        refine wa_goto hC 47 dX7_openLoop_43 (by decide) ?_
        exact wa_sub [] rfl (hJ47  _ _ hf)
    · have hf := ite_t hf c5
      refine wa_ldc hC mbX7_openLoop_55 dX7_openLoop_16 ?_
      exact wa_iret hC hlk hr (congrArg Prod.fst (so_inj hf)) (congrArg Prod.snd (so_inj hf)) dX7_openLoop_18
abbrev rmX7_corrected : Room := { frames := 4, cells := 0, slots := 0, locals := 96 }
theorem fiX7_corrected_7 : ∀ w ∈ u_ws RX7 TX7 21, w ∈ wsX7_corrected := by decide +kernel
theorem mbX7_corrected_55 : Cond.constant RX7 55 (-2000000001) ∈ wsX7_corrected := by decide +kernel
theorem mbX7_corrected_29 : Cond.fieldLink RX7 29 "BaroRunsModel" "isGood" "[Z" ∈ wsX7_corrected := by decide +kernel
theorem mbX7_corrected_92 : Cond.constant RX7 92 (-2000000004) ∈ wsX7_corrected := by decide +kernel
set_option maxHeartbeats 4000000 in
set_option maxRecDepth 100000 in
theorem kX7_corrected (l : Launch) (G : wG) {x1 : Int32} {x2 : Int32} {M0 M1 : wM} {r : Int32} (hf : fX7_corrected x1 x2 M0 = some (r, M1)) : mI l yX7_corrected wsX7_corrected rmX7_corrected G [.ref (ga G (96)), .int (x1), .int (x2)] M0 r M1 := by
  refine mI.of (cc := cX7_corrected) (nL := 3) (ret := (some .int)) (own := RX7) (lv := [(0, .ref (ga G (96))), (1, .int (x1)), (2, .int (x2))]) (plainFor_of_name (by decide +kernel)) rfl rfl (Nat.le_of_ble_eq_true rfl) rfl ?_
  intro p e s m args below meth c hC hr hlk
  unfold fX7_corrected at hf
  refine wa_iload_n hC dX7_corrected_0 rfl 1 rfl ?_
  obtain ⟨v1, h1, hf⟩ := bd hf
  refine wa_calli (rest := []) (wr_S hC (kX7_isCell l G h1) (va_cwS 1 hC.1.2.2.2.2 gX7_corrected_X7_isCell rfl rfl rfl (by decide +kernel) ⟨Nat.le_of_ble_eq_true rfl, Nat.le_of_ble_eq_true rfl⟩) rfl rfl (Nat.le_of_ble_eq_true rfl) dX7_corrected_1) ?_
  refine wa_if_eq hC 16 dX7_corrected_4 (by decide) (fun c2 => ?_) (fun c2 => ?_)
  · have hf := ite_t hf c2
    refine wa_ldc hC mbX7_corrected_55 dX7_corrected_16 ?_
    exact wa_iret hC hlk hr (congrArg Prod.fst (so_inj hf)) (congrArg Prod.snd (so_inj hf)) dX7_corrected_18
  · have hf := ite_f hf c2
    refine wa_aload_n hC dX7_corrected_7 rfl 0 rfl ?_
    refine wa_iload_n hC dX7_corrected_8 rfl 1 rfl ?_
    refine wa_iload_n hC dX7_corrected_9 rfl 2 rfl ?_
    obtain ⟨v3, h3, hf⟩ := bd hf
    refine wa_calli (rest := []) (wr_V hC (kX7_isReading l G h3) (cwV 2 hC.1.2.2.2.2 gX7_corrected_X7_isReading rfl rfl rfl (by decide +kernel) ⟨Nat.le_of_ble_eq_true rfl, Nat.le_of_ble_eq_true rfl⟩) (show kd 96 = 7 from rfl) (by decide) (ce7 (show kd 96 = 7 from rfl)) rfl rfl rfl rfl (Nat.le_of_ble_eq_true rfl) dX7_corrected_10) ?_
    refine wa_if_ne hC 19 dX7_corrected_13 (by decide) (fun c4 => ?_) (fun c4 => ?_)
    · have hf := ite_f hf c4
      refine wa_aload_n hC dX7_corrected_19 rfl 0 rfl ?_
      refine wa_iload_n hC dX7_corrected_20 rfl 1 rfl ?_
      refine wa_iconst (v := 1) hC dX7_corrected_21 (by decide) ?_
      refine wa_iadd hC dX7_corrected_22 ?_
      obtain ⟨M5, h5, hf⟩ := bd hf
      refine wa_callv (rest := []) (wr_V hC (kX7_looks l G h5) (cwV 1 hC.1.2.2.2.2 gX7_corrected_X7_looks rfl rfl rfl (by decide +kernel) ⟨Nat.le_of_ble_eq_true rfl, Nat.le_of_ble_eq_true rfl⟩) (show kd 96 = 7 from rfl) (by decide) (ce7 (show kd 96 = 7 from rfl)) rfl rfl rfl rfl (Nat.le_of_ble_eq_true rfl) dX7_corrected_23) ?_
      refine wa_aload_n hC dX7_corrected_26 rfl 0 rfl ?_
      refine rg7_11 hC fiX7_corrected_7 mbX7_corrected_29 dX7_corrected_27 ?_
      refine wa_iload_n hC dX7_corrected_30 rfl 2 rfl ?_
      obtain ⟨k6, h6, hf⟩ := bd hf
      obtain ⟨hv6, rfl⟩ := ix_some h6
      refine wa_zald hC (show kd 103 = 22 from rfl) hv6 dX7_corrected_31 ?_
      refine wa_if_eq hC 46 dX7_corrected_32 (by decide) (fun c7 => ?_) (fun c7 => ?_)
      · have hf := ite_t hf c7
        refine wa_ldc hC mbX7_corrected_92 dX7_corrected_46 ?_
        exact wa_iret hC hlk hr (congrArg Prod.fst (so_inj hf)) (congrArg Prod.snd (so_inj hf)) dX7_corrected_48
      · have hf := ite_f hf c7
        refine wa_aload_n hC dX7_corrected_35 rfl 0 rfl ?_
        refine wa_iload_n hC dX7_corrected_36 rfl 1 rfl ?_
        refine wa_iconst (v := 1) hC dX7_corrected_37 (by decide) ?_
        refine wa_iadd hC dX7_corrected_38 ?_
        refine wa_iload_n hC dX7_corrected_39 rfl 2 rfl ?_
        obtain ⟨v8, h8, hf⟩ := bd hf
        refine wa_calli (rest := []) (wr_V hC (kX7_correctedOf l G h8) (cwV 2 hC.1.2.2.2.2 gX7_corrected_X7_correctedOf rfl rfl rfl (by decide +kernel) ⟨Nat.le_of_ble_eq_true rfl, Nat.le_of_ble_eq_true rfl⟩) (show kd 96 = 7 from rfl) (by decide) (ce7 (show kd 96 = 7 from rfl)) rfl rfl rfl rfl (Nat.le_of_ble_eq_true rfl) dX7_corrected_40) ?_
        refine wa_goto hC 48 dX7_corrected_43 (by decide) ?_
        exact wa_iret hC hlk hr (congrArg Prod.fst (so_inj hf)) (congrArg Prod.snd (so_inj hf)) dX7_corrected_48
    · have hf := ite_t hf c4
      refine wa_ldc hC mbX7_corrected_55 dX7_corrected_16 ?_
      exact wa_iret hC hlk hr (congrArg Prod.fst (so_inj hf)) (congrArg Prod.snd (so_inj hf)) dX7_corrected_18
abbrev rmX7_point : Room := { frames := 5, cells := 0, slots := 0, locals := 121 }
theorem fiX7_point_7 : ∀ w ∈ u_ws RX7 TX7 21, w ∈ wsX7_point := by decide +kernel
theorem mbX7_point_55 : Cond.constant RX7 55 (-2000000001) ∈ wsX7_point := by decide +kernel
theorem mbX7_point_110 : Cond.fieldLink RX7 110 "BaroRunsModel" "many" "I" ∈ wsX7_point := by decide +kernel
theorem mbX7_point_173 : Cond.fieldLink RX7 173 "BaroRunsModel" "most" "I" ∈ wsX7_point := by decide +kernel
theorem mbX7_point_170 : Cond.fieldLink RX7 170 "BaroRunsModel" "least" "I" ∈ wsX7_point := by decide +kernel
theorem mbX7_point_166 : Cond.fieldLink RX7 166 "BaroRunsModel" "sum" "J" ∈ wsX7_point := by decide +kernel
theorem mbX7_point_92 : Cond.constant RX7 92 (-2000000004) ∈ wsX7_point := by decide +kernel
set_option maxHeartbeats 4000000 in
set_option maxRecDepth 100000 in
theorem kX7_point (l : Launch) (G : wG) {x1 : Int32} {x2 : Int32} {M0 M1 : wM} {r : Int32} (hf : fX7_point x1 x2 M0 = some (r, M1)) : mI l yX7_point wsX7_point rmX7_point G [.ref (ga G (96)), .int (x1), .int (x2)] M0 r M1 := by
  refine mI.of (cc := cX7_point) (nL := 3) (ret := (some .int)) (own := RX7) (lv := [(0, .ref (ga G (96))), (1, .int (x1)), (2, .int (x2))]) (plainFor_of_name (by decide +kernel)) rfl rfl (Nat.le_of_ble_eq_true rfl) rfl ?_
  intro p e s m args below meth c hC hr hlk
  unfold fX7_point at hf
  refine wa_iload_n hC dX7_point_0 rfl 1 rfl ?_
  refine wa_iconst (v := 0) hC dX7_point_1 (by decide) ?_
  refine wa_bipush (v := 9) hC dX7_point_2 (by decide) ?_
  obtain ⟨v1, h1, hf⟩ := bd hf
  refine wa_calli (rest := []) (wr_S hC (kX7_in l G h1) (va_cwS 3 hC.1.2.2.2.2 gX7_point_X7_in rfl rfl rfl (by decide +kernel) ⟨Nat.le_of_ble_eq_true rfl, Nat.le_of_ble_eq_true rfl⟩) rfl rfl (Nat.le_of_ble_eq_true rfl) dX7_point_4) ?_
  refine wa_if_eq hC 19 dX7_point_7 (by decide) (fun c2 => ?_) (fun c2 => ?_)
  · have hf := ite_t hf c2
    refine wa_ldc hC mbX7_point_55 dX7_point_19 ?_
    exact wa_iret hC hlk hr (congrArg Prod.fst (so_inj hf)) (congrArg Prod.snd (so_inj hf)) dX7_point_21
  · have hf := ite_f hf c2
    refine wa_iload_n hC dX7_point_10 rfl 2 rfl ?_
    refine wa_iconst (v := 0) hC dX7_point_11 (by decide) ?_
    refine wa_iconst (v := 2) hC dX7_point_12 (by decide) ?_
    obtain ⟨v3, h3, hf⟩ := bd hf
    refine wa_calli (rest := []) (wr_S hC (kX7_in l G h3) (va_cwS 3 hC.1.2.2.2.2 gX7_point_X7_in rfl rfl rfl (by decide +kernel) ⟨Nat.le_of_ble_eq_true rfl, Nat.le_of_ble_eq_true rfl⟩) rfl rfl (Nat.le_of_ble_eq_true rfl) dX7_point_13) ?_
    refine wa_if_ne hC 22 dX7_point_16 (by decide) (fun c4 => ?_) (fun c4 => ?_)
    · have hf := ite_f hf c4
      refine wa_aload_n hC dX7_point_22 rfl 0 rfl ?_
      refine wa_iload_n hC dX7_point_23 rfl 1 rfl ?_
      obtain ⟨M5, h5, hf⟩ := bd hf
      refine wa_callv (rest := []) (wr_V hC (kX7_gives l G h5) (cwV 1 hC.1.2.2.2.2 gX7_point_X7_gives rfl rfl rfl (by decide +kernel) ⟨Nat.le_of_ble_eq_true rfl, Nat.le_of_ble_eq_true rfl⟩) (show kd 96 = 7 from rfl) (by decide) (ce7 (show kd 96 = 7 from rfl)) rfl rfl rfl rfl (Nat.le_of_ble_eq_true rfl) dX7_point_24) ?_
      refine wa_iload_n hC dX7_point_27 rfl 2 rfl ?_
      refine wa_iconst (v := 2) hC dX7_point_28 (by decide) ?_
      refine wa_icmp_ne hC 37 dX7_point_29 (by decide) (fun c6 => ?_) (fun c6 => ?_)
      · have hf := ite_f hf c6
        refine wa_aload_n hC dX7_point_37 rfl 0 rfl ?_
        refine rg7_18 hC fiX7_point_7 mbX7_point_110 dX7_point_38 ?_
        refine wa_if_ne hC 49 dX7_point_41 (by decide) (fun c7 => ?_) (fun c7 => ?_)
        · have hf := ite_f hf c7
          refine wa_iload_n hC dX7_point_49 rfl 2 rfl ?_
          refine wa_if_ne hC 69 dX7_point_50 (by decide) (fun c8 => ?_) (fun c8 => ?_)
          · have hf := ite_f hf c8
            refine wa_aload_n hC dX7_point_69 rfl 0 rfl ?_
            refine rg7_20 hC fiX7_point_7 mbX7_point_173 dX7_point_70 ?_
            refine wa_aload_n hC dX7_point_73 rfl 0 rfl ?_
            refine rg7_19 hC fiX7_point_7 mbX7_point_170 dX7_point_74 ?_
            refine wa_isub hC dX7_point_77 ?_
            exact wa_iret hC hlk hr (congrArg Prod.fst (so_inj hf)) (congrArg Prod.snd (so_inj hf)) dX7_point_78
          · have hf := ite_t hf c8
            refine wa_aload_n hC dX7_point_53 rfl 0 rfl ?_
            refine rg7_17 hC fiX7_point_7 mbX7_point_166 dX7_point_54 ?_
            refine wa_aload_n hC dX7_point_57 rfl 0 rfl ?_
            refine rg7_18 hC fiX7_point_7 mbX7_point_110 dX7_point_58 ?_
            refine wa_i2l hC dX7_point_61 rfl ?_
            obtain ⟨v9, h9, hf⟩ := bd hf
            refine wa_calll (rest := []) (wr_S hC (kX7_down l G h9) (va_cwS 2 hC.1.2.2.2.2 gX7_point_X7_down rfl rfl rfl (by decide +kernel) ⟨Nat.le_of_ble_eq_true rfl, Nat.le_of_ble_eq_true rfl⟩) rfl rfl (Nat.le_of_ble_eq_true rfl) dX7_point_62) ?_
            refine wa_l2i hC dX7_point_65 rfl ?_
            refine wa_goto hC 78 dX7_point_66 (by decide) ?_
            exact wa_iret hC hlk hr (congrArg Prod.fst (so_inj hf)) (congrArg Prod.snd (so_inj hf)) dX7_point_78
        · have hf := ite_t hf c7
          refine wa_ldc hC mbX7_point_92 dX7_point_44 ?_
          refine wa_goto hC 78 dX7_point_46 (by decide) ?_
          exact wa_iret hC hlk hr (congrArg Prod.fst (so_inj hf)) (congrArg Prod.snd (so_inj hf)) dX7_point_78
      · have hf := ite_t hf c6
        refine wa_aload_n hC dX7_point_32 rfl 0 rfl ?_
        refine rg7_18 hC fiX7_point_7 mbX7_point_110 dX7_point_33 ?_
        exact wa_iret hC hlk hr (congrArg Prod.fst (so_inj hf)) (congrArg Prod.snd (so_inj hf)) dX7_point_36
    · have hf := ite_t hf c4
      refine wa_ldc hC mbX7_point_55 dX7_point_19 ?_
      exact wa_iret hC hlk hr (congrArg Prod.fst (so_inj hf)) (congrArg Prod.snd (so_inj hf)) dX7_point_21
abbrev rmX7_worst : Room := { frames := 4, cells := 0, slots := 0, locals := 96 }
theorem fiX7_worst_7 : ∀ w ∈ u_ws RX7 TX7 21, w ∈ wsX7_worst := by decide +kernel
theorem mbX7_worst_104 : Cond.fieldLink RX7 104 "BaroRunsModel" "loops" "I" ∈ wsX7_worst := by decide +kernel
theorem mbX7_worst_26 : Cond.fieldLink RX7 26 "BaroRunsModel" "raws" "[I" ∈ wsX7_worst := by decide +kernel
theorem mbX7_worst_36 : Cond.fieldLink RX7 36 "BaroRunsModel" "end" "[I" ∈ wsX7_worst := by decide +kernel
theorem mbX7_worst_33 : Cond.fieldLink RX7 33 "BaroRunsModel" "begin" "[I" ∈ wsX7_worst := by decide +kernel
theorem mbX7_worst_92 : Cond.constant RX7 92 (-2000000004) ∈ wsX7_worst := by decide +kernel
theorem mbX7_worst_55 : Cond.constant RX7 55 (-2000000001) ∈ wsX7_worst := by decide +kernel
set_option maxHeartbeats 4000000 in
set_option maxRecDepth 100000 in
theorem kX7_worst (l : Launch) (G : wG) {x1 : Int32} {M0 M1 : wM} {r : Int32} (hf : fX7_worst x1 M0 = some (r, M1)) : mI l yX7_worst wsX7_worst rmX7_worst G [.ref (ga G (96)), .int (x1)] M0 r M1 := by
  refine mI.of (cc := cX7_worst) (nL := 7) (ret := (some .int)) (own := RX7) (lv := [(0, .ref (ga G (96))), (1, .int (x1))]) (plainFor_of_name (by decide +kernel)) rfl rfl (Nat.le_of_ble_eq_true rfl) rfl ?_
  intro p e s m args below meth c hC hr hlk
  have hJ105 : ∀ (bk19 : Int32 → Int32 → Int32 → wM → Option (Int32 × wM)) (hbk19 : (∀ (x2 : Int32) (x3 : Int32) (x4 : Int32) (M0 : wM), bk19 x2 x3 x4 M0 = some (r, M1) → wAt p l e rmX7_worst s m args below meth c (qI below args s G r M1) 7 G M0 19 [(0, .ref (ga G (96))), (1, .int (x1)), (2, .int (x2)), (3, .int (x3)), (4, .int (x4))] [])) (bk34 : Int32 → Int32 → Int32 → Int32 → wM → Option (Int32 × wM)) (hbk34 : (∀ (x2 : Int32) (x3 : Int32) (x4 : Int32) (x5 : Int32) (M0 : wM), bk34 x2 x3 x4 x5 M0 = some (r, M1) → wAt p l e rmX7_worst s m args below meth c (qI below args s G r M1) 7 G M0 34 [(0, .ref (ga G (96))), (1, .int (x1)), (2, .int (x2)), (3, .int (x3)), (4, .int (x4)), (5, .int (x5))] [])) (x3 : Int32) (x4 : Int32) (x5 : Int32) (x6 : Int32) (s0 : Int32) (M0 : wM), fX7_worst_J105 x1 bk19 bk34 x3 x4 x5 x6 s0 M0 = some (r, M1) → wAt p l e rmX7_worst s m args below meth c (qI below args s G r M1) 7 G M0 105 [(0, .ref (ga G (96))), (1, .int (x1)), (3, .int (x3)), (4, .int (x4)), (5, .int (x5)), (6, .int (x6))] [.int (s0)] := by
    intro bk19 hbk19 bk34 hbk34 x3 x4 x5 x6 s0 M0 hf
    unfold fX7_worst_J105 at hf
    refine wa_istore_n (lv' := [(2, .int _), (0, .ref _), (1, .int _), (3, .int _), (4, .int _), (5, .int _), (6, .int _)]) hC dX7_worst_105 rfl (by decide) rfl ?_
    refine wa_iload hC dX7_worst_106 6 rfl ?_
    refine wa_iload_n hC dX7_worst_108 rfl 3 rfl ?_
    refine wa_icmp_le hC 117 dX7_worst_109 (by decide) (fun c1 => ?_) (fun c1 => ?_)
    · have hf := ite_t hf c1
      refine wa_iload_n hC dX7_worst_117 rfl 3 rfl ?_
      refine wa_istore_n (lv' := [(3, .int _), (2, .int _), (0, .ref _), (1, .int _), (4, .int _), (5, .int _), (6, .int _)]) hC dX7_worst_118 rfl (by decide) rfl ?_
      refine wa_iinc (v := _ + 1) (lv' := [(5, .int _), (3, .int _), (2, .int _), (0, .ref _), (1, .int _), (4, .int _), (6, .int _)]) hC dX7_worst_119 (t := 5) rfl rfl (by decide) rfl ?_
      refine wa_goto hC 34 dX7_worst_122 (by decide) ?_
      exact wa_sub [3, 4, 2, 1, 5, 0] rfl (hbk34 _ _ _ _ _ hf)
    · have hf := ite_f hf c1
      refine wa_iload hC dX7_worst_112 6 rfl ?_
      refine wa_goto hC 118 dX7_worst_114 (by decide) ?_
      refine wa_istore_n (lv' := [(3, .int _), (2, .int _), (0, .ref _), (1, .int _), (4, .int _), (5, .int _), (6, .int _)]) hC dX7_worst_118 rfl (by decide) rfl ?_
      refine wa_iinc (v := _ + 1) (lv' := [(5, .int _), (3, .int _), (2, .int _), (0, .ref _), (1, .int _), (4, .int _), (6, .int _)]) hC dX7_worst_119 (t := 5) rfl rfl (by decide) rfl ?_
      refine wa_goto hC 34 dX7_worst_122 (by decide) ?_
      exact wa_sub [3, 4, 2, 1, 5, 0] rfl (hbk34 _ _ _ _ _ hf)
  have hJ83 : ∀ (bk19 : Int32 → Int32 → Int32 → wM → Option (Int32 × wM)) (hbk19 : (∀ (x2 : Int32) (x3 : Int32) (x4 : Int32) (M0 : wM), bk19 x2 x3 x4 M0 = some (r, M1) → wAt p l e rmX7_worst s m args below meth c (qI below args s G r M1) 7 G M0 19 [(0, .ref (ga G (96))), (1, .int (x1)), (2, .int (x2)), (3, .int (x3)), (4, .int (x4))] [])) (bk34 : Int32 → Int32 → Int32 → Int32 → wM → Option (Int32 × wM)) (hbk34 : (∀ (x2 : Int32) (x3 : Int32) (x4 : Int32) (x5 : Int32) (M0 : wM), bk34 x2 x3 x4 x5 M0 = some (r, M1) → wAt p l e rmX7_worst s m args below meth c (qI below args s G r M1) 7 G M0 34 [(0, .ref (ga G (96))), (1, .int (x1)), (2, .int (x2)), (3, .int (x3)), (4, .int (x4)), (5, .int (x5))] [])) (x2 : Int32) (x3 : Int32) (x4 : Int32) (x5 : Int32) (s0 : Int32) (M0 : wM), fX7_worst_J83 x1 bk19 bk34 x2 x3 x4 x5 s0 M0 = some (r, M1) → wAt p l e rmX7_worst s m args below meth c (qI below args s G r M1) 7 G M0 83 [(0, .ref (ga G (96))), (1, .int (x1)), (2, .int (x2)), (3, .int (x3)), (4, .int (x4)), (5, .int (x5))] [.int (s0)] := by
    intro bk19 hbk19 bk34 hbk34 x2 x3 x4 x5 s0 M0 hf
    unfold fX7_worst_J83 at hf
    refine wa_istore (lv' := [(6, .int _), (0, .ref _), (1, .int _), (2, .int _), (3, .int _), (4, .int _), (5, .int _)]) hC dX7_worst_83 (by decide) rfl ?_
    refine wa_iload hC dX7_worst_85 0 rfl ?_
    refine wa_iload_n hC dX7_worst_87 rfl 4 rfl ?_
    refine wa_icmp_le hC 104 dX7_worst_88 (by decide) (fun c2 => ?_) (fun c2 => ?_)
    · have hf := ite_t hf c2
      refine wa_iload_n hC dX7_worst_104 rfl 3 rfl ?_
      exact wa_sub [1, 2, 4, 5, 6, 0] rfl (hJ105 bk19 hbk19 bk34 hbk34 _ _ _ _ _ _ hf)
    · have hf := ite_f hf c2
      refine wa_bipush (v := 20) hC dX7_worst_91 (by decide) ?_
      refine wa_iload hC dX7_worst_93 5 rfl ?_
      refine wa_iconst (v := 1) hC dX7_worst_95 (by decide) ?_
      refine wa_isub hC dX7_worst_96 ?_
      refine wa_imul hC dX7_worst_97 ?_
      refine wa_iload hC dX7_worst_98 6 rfl ?_
      refine wa_iadd hC dX7_worst_100 ?_
      refine wa_goto hC 105 dX7_worst_101 (by decide) ?_
      exact wa_sub [1, 2, 4, 5, 6, 0] rfl (hJ105 bk19 hbk19 bk34 hbk34 _ _ _ _ _ _ hf)
  have hB34 : ∀ (bk19 : Int32 → Int32 → Int32 → wM → Option (Int32 × wM)) (hbk19 : (∀ (x2 : Int32) (x3 : Int32) (x4 : Int32) (M0 : wM), bk19 x2 x3 x4 M0 = some (r, M1) → wAt p l e rmX7_worst s m args below meth c (qI below args s G r M1) 7 G M0 19 [(0, .ref (ga G (96))), (1, .int (x1)), (2, .int (x2)), (3, .int (x3)), (4, .int (x4))] [])) (bk34 : Int32 → Int32 → Int32 → Int32 → wM → Option (Int32 × wM)) (hbk34 : (∀ (x2 : Int32) (x3 : Int32) (x4 : Int32) (x5 : Int32) (M0 : wM), bk34 x2 x3 x4 x5 M0 = some (r, M1) → wAt p l e rmX7_worst s m args below meth c (qI below args s G r M1) 7 G M0 34 [(0, .ref (ga G (96))), (1, .int (x1)), (2, .int (x2)), (3, .int (x3)), (4, .int (x4)), (5, .int (x5))] [])) (x2 : Int32) (x3 : Int32) (x4 : Int32) (x5 : Int32) (M0 : wM), fX7_worst_B34 x1 bk19 bk34 x2 x3 x4 x5 M0 = some (r, M1) → wAt p l e rmX7_worst s m args below meth c (qI below args s G r M1) 7 G M0 34 [(0, .ref (ga G (96))), (1, .int (x1)), (2, .int (x2)), (3, .int (x3)), (4, .int (x4)), (5, .int (x5))] [] := by
    intro bk19 hbk19 bk34 hbk34 x2 x3 x4 x5 M0 hf
    unfold fX7_worst_B34 at hf
    refine wa_iload hC dX7_worst_34 5 rfl ?_
    refine wa_aload_n hC dX7_worst_36 rfl 0 rfl ?_
    refine rg7_14 hC fiX7_worst_7 mbX7_worst_104 dX7_worst_37 ?_
    refine wa_icmp_ge hC 125 dX7_worst_40 (by decide) (fun c3 => ?_) (fun c3 => ?_)
    · have hf := ite_t hf c3
      refine wa_iinc (v := _ + 1) (lv' := [(4, .int _), (0, .ref _), (1, .int _), (2, .int _), (3, .int _), (5, .int _)]) hC dX7_worst_125 (t := 4) rfl rfl (by decide) rfl ?_
      refine wa_goto hC 19 dX7_worst_128 (by decide) ?_
      exact wa_sub [1, 2, 3, 4, 0] rfl (hbk19 _ _ _ _ hf)
    · have hf := ite_f hf c3
      refine wa_aload_n hC dX7_worst_43 rfl 0 rfl ?_
      refine rg7_10 hC fiX7_worst_7 mbX7_worst_26 dX7_worst_44 ?_
      refine wa_aload_n hC dX7_worst_47 rfl 0 rfl ?_
      refine rg7_13 hC fiX7_worst_7 mbX7_worst_36 dX7_worst_48 ?_
      refine wa_iload hC dX7_worst_51 5 rfl ?_
      obtain ⟨k4, h4, hf⟩ := bd hf
      obtain ⟨hv4, rfl⟩ := ix_some h4
      refine wa_iald hC (show kd 105 = 20 from rfl) hv4 dX7_worst_53 ?_
      obtain ⟨k5, h5, hf⟩ := bd hf
      obtain ⟨hv5, rfl⟩ := ix_some h5
      refine wa_iald hC (show kd 102 = 20 from rfl) hv5 dX7_worst_54 ?_
      refine wa_aload_n hC dX7_worst_55 rfl 0 rfl ?_
      refine rg7_10 hC fiX7_worst_7 mbX7_worst_26 dX7_worst_56 ?_
      refine wa_aload_n hC dX7_worst_59 rfl 0 rfl ?_
      refine rg7_12 hC fiX7_worst_7 mbX7_worst_33 dX7_worst_60 ?_
      refine wa_iload hC dX7_worst_63 5 rfl ?_
      obtain ⟨k6, h6, hf⟩ := bd hf
      obtain ⟨hv6, rfl⟩ := ix_some h6
      refine wa_iald hC (show kd 104 = 20 from rfl) hv6 dX7_worst_65 ?_
      obtain ⟨k7, h7, hf⟩ := bd hf
      obtain ⟨hv7, rfl⟩ := ix_some h7
      refine wa_iald hC (show kd 102 = 20 from rfl) hv7 dX7_worst_66 ?_
      refine wa_isub hC dX7_worst_67 ?_
      refine wa_istore (lv' := [(6, .int _), (0, .ref _), (1, .int _), (2, .int _), (3, .int _), (4, .int _), (5, .int _)]) hC dX7_worst_68 (by decide) rfl ?_
      refine wa_iload hC dX7_worst_70 0 rfl ?_
      refine wa_if_ge hC 81 dX7_worst_72 (by decide) (fun c8 => ?_) (fun c8 => ?_)
      · have hf := ite_t hf c8
        refine wa_iload hC dX7_worst_81 0 rfl ?_
        exact wa_sub [1, 2, 3, 4, 5, 6] rfl (hJ83 bk19 hbk19 bk34 hbk34 _ _ _ _ _ _ hf)
      · have hf := ite_f hf c8
        refine wa_iload hC dX7_worst_75 0 rfl ?_
        refine wa_ineg hC dX7_worst_77 ?_
        refine wa_goto hC 83 dX7_worst_78 (by decide) ?_
        exact wa_sub [1, 2, 3, 4, 5, 6] rfl (hJ83 bk19 hbk19 bk34 hbk34 _ _ _ _ _ _ hf)
  have hL34 : ∀ (bk19 : Int32 → Int32 → Int32 → wM → Option (Int32 × wM)) (hbk19 : (∀ (x2 : Int32) (x3 : Int32) (x4 : Int32) (M0 : wM), bk19 x2 x3 x4 M0 = some (r, M1) → wAt p l e rmX7_worst s m args below meth c (qI below args s G r M1) 7 G M0 19 [(0, .ref (ga G (96))), (1, .int (x1)), (2, .int (x2)), (3, .int (x3)), (4, .int (x4))] [])) (n : Nat) (x2 : Int32) (x3 : Int32) (x4 : Int32) (x5 : Int32) (M0 : wM), fX7_worst_L34 x1 bk19 n x2 x3 x4 x5 M0 = some (r, M1) → wAt p l e rmX7_worst s m args below meth c (qI below args s G r M1) 7 G M0 34 [(0, .ref (ga G (96))), (1, .int (x1)), (2, .int (x2)), (3, .int (x3)), (4, .int (x4)), (5, .int (x5))] [] := by
    intro bk19 hbk19 n
    induction n with
    | zero =>
      intro x2 x3 x4 x5 M0 hf
      exact absurd hf (by simp [fX7_worst_L34])
    | succ n ih =>
      intro x2 x3 x4 x5 M0 hf
      exact hB34 bk19 hbk19 (fX7_worst_L34 x1 bk19 n) ih x2 x3 x4 x5 M0 hf
  have hB19 : ∀ (bk19 : Int32 → Int32 → Int32 → wM → Option (Int32 × wM)) (hbk19 : (∀ (x2 : Int32) (x3 : Int32) (x4 : Int32) (M0 : wM), bk19 x2 x3 x4 M0 = some (r, M1) → wAt p l e rmX7_worst s m args below meth c (qI below args s G r M1) 7 G M0 19 [(0, .ref (ga G (96))), (1, .int (x1)), (2, .int (x2)), (3, .int (x3)), (4, .int (x4))] [])) (x2 : Int32) (x3 : Int32) (x4 : Int32) (M0 : wM), fX7_worst_B19 x1 bk19 x2 x3 x4 M0 = some (r, M1) → wAt p l e rmX7_worst s m args below meth c (qI below args s G r M1) 7 G M0 19 [(0, .ref (ga G (96))), (1, .int (x1)), (2, .int (x2)), (3, .int (x3)), (4, .int (x4))] [] := by
    intro bk19 hbk19 x2 x3 x4 M0 hf
    unfold fX7_worst_B19 at hf
    refine wa_iload hC dX7_worst_19 4 rfl ?_
    refine wa_iconst (v := 4) hC dX7_worst_21 (by decide) ?_
    refine wa_icmp_ge hC 131 dX7_worst_22 (by decide) (fun c9 => ?_) (fun c9 => ?_)
    · have hf := ite_t hf c9
      refine wa_iload_n hC dX7_worst_131 rfl 2 rfl ?_
      refine wa_iconst (v := -1) hC dX7_worst_132 (by decide) ?_
      refine wa_icmp_ne hC 141 dX7_worst_133 (by decide) (fun c10 => ?_) (fun c10 => ?_)
      · have hf := ite_f hf c10
        refine wa_iload_n hC dX7_worst_141 rfl 1 rfl ?_
        refine wa_if_ne hC 152 dX7_worst_142 (by decide) (fun c11 => ?_) (fun c11 => ?_)
        · have hf := ite_f hf c11
          refine wa_iload_n hC dX7_worst_152 rfl 2 rfl ?_
          refine wa_bipush (v := 20) hC dX7_worst_153 (by decide) ?_
          obtain ⟨v12, h12, hf⟩ := bd hf
          obtain ⟨hz12, rfl⟩ := rmI_some h12
          refine wa_irem hC dX7_worst_155 hz12 ?_
          exact wa_iret hC hlk hr (congrArg Prod.fst (so_inj hf)) (congrArg Prod.snd (so_inj hf)) dX7_worst_156
        · have hf := ite_t hf c11
          refine wa_iload_n hC dX7_worst_145 rfl 2 rfl ?_
          refine wa_bipush (v := 20) hC dX7_worst_146 (by decide) ?_
          obtain ⟨v13, h13, hf⟩ := bd hf
          obtain ⟨hz13, rfl⟩ := dvI_some h13
          refine wa_idiv hC dX7_worst_148 hz13 ?_
          refine wa_goto hC 156 dX7_worst_149 (by decide) ?_
          exact wa_iret hC hlk hr (congrArg Prod.fst (so_inj hf)) (congrArg Prod.snd (so_inj hf)) dX7_worst_156
      · have hf := ite_t hf c10
        refine wa_ldc hC mbX7_worst_92 dX7_worst_136 ?_
        refine wa_goto hC 156 dX7_worst_138 (by decide) ?_
        exact wa_iret hC hlk hr (congrArg Prod.fst (so_inj hf)) (congrArg Prod.snd (so_inj hf)) dX7_worst_156
    · have hf := ite_f hf c9
      refine wa_aload_n hC dX7_worst_25 rfl 0 rfl ?_
      refine wa_iload hC dX7_worst_26 4 rfl ?_
      obtain ⟨M14, h14, hf⟩ := bd hf
      refine wa_callv (rest := []) (wr_V hC (kX7_looks l G h14) (cwV 1 hC.1.2.2.2.2 gX7_worst_X7_looks rfl rfl rfl (by decide +kernel) ⟨Nat.le_of_ble_eq_true rfl, Nat.le_of_ble_eq_true rfl⟩) (show kd 96 = 7 from rfl) (by decide) (ce7 (show kd 96 = 7 from rfl)) rfl rfl rfl rfl (Nat.le_of_ble_eq_true rfl) dX7_worst_28) ?_
      refine wa_iconst (v := 0) hC dX7_worst_31 (by decide) ?_
      refine wa_istore (lv' := [(5, .int _), (0, .ref _), (1, .int _), (2, .int _), (3, .int _), (4, .int _)]) hC dX7_worst_32 (by decide) rfl ?_
      exact wa_sub [1, 2, 3, 4, 5, 0] rfl (hL34 bk19 hbk19 FU _ _ _ _ _ hf)
  have hL19 : ∀ (n : Nat) (x2 : Int32) (x3 : Int32) (x4 : Int32) (M0 : wM), fX7_worst_L19 x1  n x2 x3 x4 M0 = some (r, M1) → wAt p l e rmX7_worst s m args below meth c (qI below args s G r M1) 7 G M0 19 [(0, .ref (ga G (96))), (1, .int (x1)), (2, .int (x2)), (3, .int (x3)), (4, .int (x4))] [] := by
    intro  n
    induction n with
    | zero =>
      intro x2 x3 x4 M0 hf
      exact absurd hf (by simp [fX7_worst_L19])
    | succ n ih =>
      intro x2 x3 x4 M0 hf
      exact hB19  (fX7_worst_L19 x1  n) ih x2 x3 x4 M0 hf
  unfold fX7_worst at hf
  refine wa_iload_n hC dX7_worst_0 rfl 1 rfl ?_
  refine wa_iconst (v := 0) hC dX7_worst_1 (by decide) ?_
  refine wa_iconst (v := 1) hC dX7_worst_2 (by decide) ?_
  obtain ⟨v15, h15, hf⟩ := bd hf
  refine wa_calli (rest := []) (wr_S hC (kX7_in l G h15) (va_cwS 3 hC.1.2.2.2.2 gX7_worst_X7_in rfl rfl rfl (by decide +kernel) ⟨Nat.le_of_ble_eq_true rfl, Nat.le_of_ble_eq_true rfl⟩) rfl rfl (Nat.le_of_ble_eq_true rfl) dX7_worst_3) ?_
  refine wa_if_ne hC 12 dX7_worst_6 (by decide) (fun c16 => ?_) (fun c16 => ?_)
  · have hf := ite_f hf c16
    refine wa_iconst (v := -1) hC dX7_worst_12 (by decide) ?_
    refine wa_istore_n (lv' := [(2, .int _), (0, .ref _), (1, .int _)]) hC dX7_worst_13 rfl (by decide) rfl ?_
    refine wa_iconst (v := -1) hC dX7_worst_14 (by decide) ?_
    refine wa_istore_n (lv' := [(3, .int _), (2, .int _), (0, .ref _), (1, .int _)]) hC dX7_worst_15 rfl (by decide) rfl ?_
    refine wa_iconst (v := 1) hC dX7_worst_16 (by decide) ?_
    refine wa_istore (lv' := [(4, .int _), (3, .int _), (2, .int _), (0, .ref _), (1, .int _)]) hC dX7_worst_17 (by decide) rfl ?_
    exact wa_sub [3, 4, 2, 1, 0] rfl (hL19 FU _ _ _ _ hf)
  · have hf := ite_t hf c16
    refine wa_ldc hC mbX7_worst_55 dX7_worst_9 ?_
    exact wa_iret hC hlk hr (congrArg Prod.fst (so_inj hf)) (congrArg Prod.snd (so_inj hf)) dX7_worst_11
abbrev rmX7_type : Room := { frames := 1, cells := 0, slots := 0, locals := 22 }
theorem fiX7_type_7 : ∀ w ∈ u_ws RX7 TX7 21, w ∈ wsX7_type := by decide +kernel
theorem mbX7_type_123 : Cond.fieldLink RX7 123 "BaroRunsModel" "typed" "I" ∈ wsX7_type := by decide +kernel
theorem mbX7_type_19 : Cond.fieldLink RX7 19 "BaroRunsModel" "text" "[C" ∈ wsX7_type := by decide +kernel
theorem mbX7_type_75 : Cond.constant RX7 75 (-2000000003) ∈ wsX7_type := by decide +kernel
theorem mbX7_type_55 : Cond.constant RX7 55 (-2000000001) ∈ wsX7_type := by decide +kernel
set_option maxHeartbeats 4000000 in
set_option maxRecDepth 100000 in
theorem kX7_type (l : Launch) (G : wG) {x1 : Int32} {M0 M1 : wM} {r : Int32} (hf : fX7_type x1 M0 = some (r, M1)) : mI l yX7_type wsX7_type rmX7_type G [.ref (ga G (96)), .int (x1)] M0 r M1 := by
  refine mI.of (cc := cX7_type) (nL := 2) (ret := (some .int)) (own := RX7) (lv := [(0, .ref (ga G (96))), (1, .int (x1))]) (plainFor_of_name (by decide +kernel)) rfl rfl (Nat.le_of_ble_eq_true rfl) rfl ?_
  intro p e s m args below meth c hC hr hlk
  unfold fX7_type at hf
  refine wa_iload_n hC dX7_type_0 rfl 1 rfl ?_
  refine wa_bipush (v := 32) hC dX7_type_1 (by decide) ?_
  refine wa_bipush (v := 126) hC dX7_type_3 (by decide) ?_
  obtain ⟨v1, h1, hf⟩ := bd hf
  refine wa_calli (rest := []) (wr_S hC (kX7_in l G h1) (va_cwS 3 hC.1.2.2.2.2 gX7_type_X7_in rfl rfl rfl (by decide +kernel) ⟨Nat.le_of_ble_eq_true rfl, Nat.le_of_ble_eq_true rfl⟩) rfl rfl (Nat.le_of_ble_eq_true rfl) dX7_type_5) ?_
  refine wa_if_ne hC 14 dX7_type_8 (by decide) (fun c2 => ?_) (fun c2 => ?_)
  · have hf := ite_f hf c2
    refine wa_aload_n hC dX7_type_14 rfl 0 rfl ?_
    refine rg7_5 hC fiX7_type_7 mbX7_type_123 dX7_type_15 ?_
    refine wa_bipush (v := 100) hC dX7_type_18 (by decide) ?_
    refine wa_icmp_ne hC 26 dX7_type_20 (by decide) (fun c3 => ?_) (fun c3 => ?_)
    · have hf := ite_f hf c3
      refine wa_aload_n hC dX7_type_26 rfl 0 rfl ?_
      refine rg7_4 hC fiX7_type_7 mbX7_type_19 dX7_type_27 ?_
      refine wa_aload_n hC dX7_type_30 rfl 0 rfl ?_
      refine rg7_5 hC fiX7_type_7 mbX7_type_123 dX7_type_31 ?_
      refine wa_iload_n hC dX7_type_34 rfl 1 rfl ?_
      refine wa_i2c hC dX7_type_35 rfl ?_
      obtain ⟨k4, h4, hf⟩ := bd hf
      obtain ⟨hv4, rfl⟩ := ix_some h4
      refine wa_cast hC (show kd 100 = 21 from rfl) hv4 rfl dX7_type_36 ?_
      refine wa_aload_n hC dX7_type_37 rfl 0 rfl ?_
      refine wa_dup hC dX7_type_38 rfl ?_
      refine rg7_5 hC fiX7_type_7 mbX7_type_123 dX7_type_39 ?_
      refine wa_iconst (v := 1) hC dX7_type_42 (by decide) ?_
      refine wa_iadd hC dX7_type_43 ?_
      refine rp7_5 hC fiX7_type_7 mbX7_type_123 dX7_type_44 ?_
      refine wa_aload_n hC dX7_type_47 rfl 0 rfl ?_
      refine rg7_5 hC fiX7_type_7 mbX7_type_123 dX7_type_48 ?_
      exact wa_iret hC hlk hr (congrArg Prod.fst (so_inj hf)) (congrArg Prod.snd (so_inj hf)) dX7_type_51
    · have hf := ite_t hf c3
      refine wa_ldc hC mbX7_type_75 dX7_type_23 ?_
      exact wa_iret hC hlk hr (congrArg Prod.fst (so_inj hf)) (congrArg Prod.snd (so_inj hf)) dX7_type_25
  · have hf := ite_t hf c2
    refine wa_ldc hC mbX7_type_55 dX7_type_11 ?_
    exact wa_iret hC hlk hr (congrArg Prod.fst (so_inj hf)) (congrArg Prod.snd (so_inj hf)) dX7_type_13
abbrev rmX7_clearText : Room := { frames := 0, cells := 0, slots := 0, locals := 0 }
theorem fiX7_clearText_7 : ∀ w ∈ u_ws RX7 TX7 21, w ∈ wsX7_clearText := by decide +kernel
theorem mbX7_clearText_123 : Cond.fieldLink RX7 123 "BaroRunsModel" "typed" "I" ∈ wsX7_clearText := by decide +kernel
set_option maxHeartbeats 4000000 in
set_option maxRecDepth 100000 in
theorem kX7_clearText (l : Launch) (G : wG)  {M0 M1 : wM} {r : Int32} (hf : fX7_clearText  M0 = some (r, M1)) : mI l yX7_clearText wsX7_clearText rmX7_clearText G [.ref (ga G (96))] M0 r M1 := by
  refine mI.of (cc := cX7_clearText) (nL := 2) (ret := (some .int)) (own := RX7) (lv := [(0, .ref (ga G (96)))]) (plainFor_of_name (by decide +kernel)) rfl rfl (Nat.le_of_ble_eq_true rfl) rfl ?_
  intro p e s m args below meth c hC hr hlk
  unfold fX7_clearText at hf
  refine wa_aload_n hC dX7_clearText_0 rfl 0 rfl ?_
  refine rg7_5 hC fiX7_clearText_7 mbX7_clearText_123 dX7_clearText_1 ?_
  refine wa_istore_n (lv' := [(1, .int _), (0, .ref _)]) hC dX7_clearText_4 rfl (by decide) rfl ?_
  refine wa_aload_n hC dX7_clearText_5 rfl 1 rfl ?_
  refine wa_iconst (v := 0) hC dX7_clearText_6 (by decide) ?_
  refine rp7_5 hC fiX7_clearText_7 mbX7_clearText_123 dX7_clearText_7 ?_
  refine wa_iload_n hC dX7_clearText_10 rfl 0 rfl ?_
  exact wa_iret hC hlk hr (congrArg Prod.fst (so_inj hf)) (congrArg Prod.snd (so_inj hf)) dX7_clearText_11
abbrev rmX7_passes : Room := { frames := 0, cells := 0, slots := 0, locals := 0 }
theorem fiX7_passes_7 : ∀ w ∈ u_ws RX7 TX7 21, w ∈ wsX7_passes := by decide +kernel
theorem mbX7_passes_176 : Cond.fieldLink RX7 176 "BaroRunsModel" "at" "I" ∈ wsX7_passes := by decide +kernel
theorem mbX7_passes_123 : Cond.fieldLink RX7 123 "BaroRunsModel" "typed" "I" ∈ wsX7_passes := by decide +kernel
theorem mbX7_passes_19 : Cond.fieldLink RX7 19 "BaroRunsModel" "text" "[C" ∈ wsX7_passes := by decide +kernel
set_option maxHeartbeats 4000000 in
set_option maxRecDepth 100000 in
theorem kX7_passes (l : Launch) (G : wG) {x1 : Int32} {M0 M1 : wM} {b : Bool} (hf : fX7_passes x1 M0 = some (b, M1)) : mI l yX7_passes wsX7_passes rmX7_passes G [.ref (ga G (96)), .int (x1)] M0 (b2 b) M1 := by
  refine mI.of (cc := cX7_passes) (nL := 3) (ret := (some .boolean)) (own := RX7) (lv := [(0, .ref (ga G (96))), (1, .int (x1))]) (plainFor_of_name (by decide +kernel)) rfl rfl (Nat.le_of_ble_eq_true rfl) rfl ?_
  intro p e s m args below meth c hC hr hlk
  have hJ44 : ∀ (x2 : Int32) (s1 : Int32) (s2 : Int32) (M0 : wM), fX7_passes_J44 x1  x2 s1 s2 M0 = some (b, M1) → wAt p l e rmX7_passes s m args below meth c (qI below args s G (b2 b) M1) 3 G M0 44 [(2, .int (x2))] [.int (s2), .int (s1), .ref (ga G (96))] := by
    intro  x2 s1 s2 M0 hf
    unfold fX7_passes_J44 at hf
    refine wa_iadd hC dX7_passes_44 ?_
    refine rp7_6 hC fiX7_passes_7 mbX7_passes_176 dX7_passes_45 ?_
    refine wa_iload_n hC dX7_passes_48 rfl 0 rfl ?_
    obtain ⟨b1, hb1, hf⟩ := bd hf
    have hb1 := bz_some hb1
    exact wa_zret hC hlk hr (hb1.trans (congrArg b2 (congrArg Prod.fst (so_inj hf)))) (congrArg Prod.snd (so_inj hf)) dX7_passes_49
  have hJ29 : ∀ (s0 : Int32) (M0 : wM), fX7_passes_J29 x1  s0 M0 = some (b, M1) → wAt p l e rmX7_passes s m args below meth c (qI below args s G (b2 b) M1) 3 G M0 29 [(0, .ref (ga G (96)))] [.int (s0)] := by
    intro  s0 M0 hf
    unfold fX7_passes_J29 at hf
    refine wa_istore_n (lv' := [(2, .int _), (0, .ref _)]) hC dX7_passes_29 rfl (by decide) rfl ?_
    refine wa_aload_n hC dX7_passes_30 rfl 1 rfl ?_
    refine wa_dup hC dX7_passes_31 rfl ?_
    refine rg7_6 hC fiX7_passes_7 mbX7_passes_176 dX7_passes_32 ?_
    refine wa_iload_n hC dX7_passes_35 rfl 0 rfl ?_
    refine wa_if_eq hC 43 dX7_passes_36 (by decide) (fun c2 => ?_) (fun c2 => ?_)
    · have hf := ite_t hf c2
      refine wa_iconst (v := 0) hC dX7_passes_43 (by decide) ?_
      exact wa_sub [0] rfl (hJ44  _ _ _ _ hf)
    · have hf := ite_f hf c2
      refine wa_iconst (v := 1) hC dX7_passes_39 (by decide) ?_
      refine wa_goto hC 44 dX7_passes_40 (by decide) ?_
      exact wa_sub [0] rfl (hJ44  _ _ _ _ hf)
  unfold fX7_passes at hf
  refine wa_aload_n hC dX7_passes_0 rfl 0 rfl ?_
  refine rg7_6 hC fiX7_passes_7 mbX7_passes_176 dX7_passes_1 ?_
  refine wa_aload_n hC dX7_passes_4 rfl 0 rfl ?_
  refine rg7_5 hC fiX7_passes_7 mbX7_passes_123 dX7_passes_5 ?_
  refine wa_icmp_ge hC 28 dX7_passes_8 (by decide) (fun c3 => ?_) (fun c3 => ?_)
  · have hf := ite_t hf c3
    refine wa_iconst (v := 0) hC dX7_passes_28 (by decide) ?_
    exact wa_sub [0] rfl (hJ29  _ _ hf)
  · have hf := ite_f hf c3
    refine wa_aload_n hC dX7_passes_11 rfl 0 rfl ?_
    refine rg7_4 hC fiX7_passes_7 mbX7_passes_19 dX7_passes_12 ?_
    refine wa_aload_n hC dX7_passes_15 rfl 0 rfl ?_
    refine rg7_6 hC fiX7_passes_7 mbX7_passes_176 dX7_passes_16 ?_
    obtain ⟨k4, h4, hf⟩ := bd hf
    obtain ⟨hv4, rfl⟩ := ix_some h4
    refine wa_cald hC (show kd 100 = 21 from rfl) hv4 dX7_passes_19 ?_
    refine wa_iload_n hC dX7_passes_20 rfl 1 rfl ?_
    refine wa_icmp_ne hC 28 dX7_passes_21 (by decide) (fun c5 => ?_) (fun c5 => ?_)
    · have hf := ite_f hf c5
      refine wa_iconst (v := 0) hC dX7_passes_28 (by decide) ?_
      exact wa_sub [0] rfl (hJ29  _ _ hf)
    · have hf := ite_t hf c5
      refine wa_iconst (v := 1) hC dX7_passes_24 (by decide) ?_
      refine wa_goto hC 29 dX7_passes_25 (by decide) ?_
      exact wa_sub [0] rfl (hJ29  _ _ hf)
abbrev rmX7_number : Room := { frames := 1, cells := 0, slots := 0, locals := 22 }
theorem fiX7_number_7 : ∀ w ∈ u_ws RX7 TX7 21, w ∈ wsX7_number := by decide +kernel
theorem mbX7_number_176 : Cond.fieldLink RX7 176 "BaroRunsModel" "at" "I" ∈ wsX7_number := by decide +kernel
theorem mbX7_number_123 : Cond.fieldLink RX7 123 "BaroRunsModel" "typed" "I" ∈ wsX7_number := by decide +kernel
theorem mbX7_number_19 : Cond.fieldLink RX7 19 "BaroRunsModel" "text" "[C" ∈ wsX7_number := by decide +kernel
set_option maxHeartbeats 4000000 in
set_option maxRecDepth 100000 in
theorem kX7_number (l : Launch) (G : wG) {x1 : Int32} {M0 M1 : wM} {r : Int32} (hf : fX7_number x1 M0 = some (r, M1)) : mI l yX7_number wsX7_number rmX7_number G [.ref (ga G (96)), .int (x1)] M0 r M1 := by
  refine mI.of (cc := cX7_number) (nL := 4) (ret := (some .int)) (own := RX7) (lv := [(0, .ref (ga G (96))), (1, .int (x1))]) (plainFor_of_name (by decide +kernel)) rfl rfl (Nat.le_of_ble_eq_true rfl) rfl ?_
  intro p e s m args below meth c hC hr hlk
  have hJ78 : ∀ (x2 : Int32) (x3 : Int32) (M0 : wM), fX7_number_J78 x1  x2 x3 M0 = some (r, M1) → wAt p l e rmX7_number s m args below meth c (qI below args s G r M1) 4 G M0 78 [(0, .ref (ga G (96))), (2, .int (x2)), (3, .int (x3))] [] := by
    intro  x2 x3 M0 hf
    unfold fX7_number_J78 at hf
    refine wa_aload_n hC dX7_number_78 rfl 0 rfl ?_
    refine rg7_6 hC fiX7_number_7 mbX7_number_176 dX7_number_79 ?_
    refine wa_iload_n hC dX7_number_82 rfl 1 rfl ?_
    refine wa_icmp_le hC 90 dX7_number_83 (by decide) (fun c1 => ?_) (fun c1 => ?_)
    · have hf := ite_t hf c1
      refine wa_iconst (v := -1) hC dX7_number_90 (by decide) ?_
      exact wa_iret hC hlk hr (congrArg Prod.fst (so_inj hf)) (congrArg Prod.snd (so_inj hf)) dX7_number_91
    · have hf := ite_f hf c1
      refine wa_iload_n hC dX7_number_86 rfl 2 rfl ?_
      refine wa_goto hC 91 dX7_number_87 (by decide) ?_
      exact wa_iret hC hlk hr (congrArg Prod.fst (so_inj hf)) (congrArg Prod.snd (so_inj hf)) dX7_number_91
  have hB7 : ∀ (bk7 : Int32 → Int32 → wM → Option (Int32 × wM)) (hbk7 : (∀ (x2 : Int32) (x3 : Int32) (M0 : wM), bk7 x2 x3 M0 = some (r, M1) → wAt p l e rmX7_number s m args below meth c (qI below args s G r M1) 4 G M0 7 [(0, .ref (ga G (96))), (1, .int (x1)), (2, .int (x2)), (3, .int (x3))] [])) (x2 : Int32) (x3 : Int32) (M0 : wM), fX7_number_B7 x1 bk7 x2 x3 M0 = some (r, M1) → wAt p l e rmX7_number s m args below meth c (qI below args s G r M1) 4 G M0 7 [(0, .ref (ga G (96))), (1, .int (x1)), (2, .int (x2)), (3, .int (x3))] [] := by
    intro bk7 hbk7 x2 x3 M0 hf
    unfold fX7_number_B7 at hf
    refine wa_aload_n hC dX7_number_7 rfl 0 rfl ?_
    refine rg7_6 hC fiX7_number_7 mbX7_number_176 dX7_number_8 ?_
    refine wa_aload_n hC dX7_number_11 rfl 0 rfl ?_
    refine rg7_5 hC fiX7_number_7 mbX7_number_123 dX7_number_12 ?_
    refine wa_icmp_ge hC 78 dX7_number_15 (by decide) (fun c2 => ?_) (fun c2 => ?_)
    · have hf := ite_t hf c2
      exact wa_sub [0, 2, 3] rfl (hJ78  _ _ _ hf)
    · have hf := ite_f hf c2
      refine wa_aload_n hC dX7_number_18 rfl 0 rfl ?_
      refine rg7_6 hC fiX7_number_7 mbX7_number_176 dX7_number_19 ?_
      refine wa_iload_n hC dX7_number_22 rfl 2 rfl ?_
      refine wa_iload_n hC dX7_number_23 rfl 1 rfl ?_
      refine wa_iadd hC dX7_number_24 ?_
      refine wa_icmp_ge hC 78 dX7_number_25 (by decide) (fun c3 => ?_) (fun c3 => ?_)
      · have hf := ite_t hf c3
        exact wa_sub [0, 2, 3] rfl (hJ78  _ _ _ hf)
      · have hf := ite_f hf c3
        refine wa_aload_n hC dX7_number_28 rfl 0 rfl ?_
        refine rg7_4 hC fiX7_number_7 mbX7_number_19 dX7_number_29 ?_
        refine wa_aload_n hC dX7_number_32 rfl 0 rfl ?_
        refine rg7_6 hC fiX7_number_7 mbX7_number_176 dX7_number_33 ?_
        obtain ⟨k4, h4, hf⟩ := bd hf
        obtain ⟨hv4, rfl⟩ := ix_some h4
        refine wa_cald hC (show kd 100 = 21 from rfl) hv4 dX7_number_36 ?_
        refine wa_bipush (v := 48) hC dX7_number_37 (by decide) ?_
        refine wa_bipush (v := 57) hC dX7_number_39 (by decide) ?_
        obtain ⟨v5, h5, hf⟩ := bd hf
        refine wa_calli (rest := []) (wr_S hC (kX7_in l G h5) (va_cwS 3 hC.1.2.2.2.2 gX7_number_X7_in rfl rfl rfl (by decide +kernel) ⟨Nat.le_of_ble_eq_true rfl, Nat.le_of_ble_eq_true rfl⟩) rfl rfl (Nat.le_of_ble_eq_true rfl) dX7_number_41) ?_
        refine wa_if_eq hC 78 dX7_number_44 (by decide) (fun c6 => ?_) (fun c6 => ?_)
        · have hf := ite_t hf c6
          exact wa_sub [0, 2, 3] rfl (hJ78  _ _ _ hf)
        · have hf := ite_f hf c6
          refine wa_bipush (v := 10) hC dX7_number_47 (by decide) ?_
          refine wa_iload_n hC dX7_number_49 rfl 3 rfl ?_
          refine wa_imul hC dX7_number_50 ?_
          refine wa_aload_n hC dX7_number_51 rfl 0 rfl ?_
          refine rg7_4 hC fiX7_number_7 mbX7_number_19 dX7_number_52 ?_
          refine wa_aload_n hC dX7_number_55 rfl 0 rfl ?_
          refine rg7_6 hC fiX7_number_7 mbX7_number_176 dX7_number_56 ?_
          obtain ⟨k7, h7, hf⟩ := bd hf
          obtain ⟨hv7, rfl⟩ := ix_some h7
          refine wa_cald hC (show kd 100 = 21 from rfl) hv7 dX7_number_59 ?_
          refine wa_iadd hC dX7_number_60 ?_
          refine wa_bipush (v := 48) hC dX7_number_61 (by decide) ?_
          refine wa_isub hC dX7_number_63 ?_
          refine wa_istore_n (lv' := [(3, .int _), (0, .ref _), (1, .int _), (2, .int _)]) hC dX7_number_64 rfl (by decide) rfl ?_
          refine wa_aload_n hC dX7_number_65 rfl 1 rfl ?_
          refine wa_dup hC dX7_number_66 rfl ?_
          refine rg7_6 hC fiX7_number_7 mbX7_number_176 dX7_number_67 ?_
          refine wa_iconst (v := 1) hC dX7_number_70 (by decide) ?_
          refine wa_iadd hC dX7_number_71 ?_
          refine rp7_6 hC fiX7_number_7 mbX7_number_176 dX7_number_72 ?_
          refine wa_goto hC 7 dX7_number_75 (by decide) ?_
          exact wa_sub [1, 2, 3, 0] rfl (hbk7 _ _ _ hf)
  have hL7 : ∀ (n : Nat) (x2 : Int32) (x3 : Int32) (M0 : wM), fX7_number_L7 x1  n x2 x3 M0 = some (r, M1) → wAt p l e rmX7_number s m args below meth c (qI below args s G r M1) 4 G M0 7 [(0, .ref (ga G (96))), (1, .int (x1)), (2, .int (x2)), (3, .int (x3))] [] := by
    intro  n
    induction n with
    | zero =>
      intro x2 x3 M0 hf
      exact absurd hf (by simp [fX7_number_L7])
    | succ n ih =>
      intro x2 x3 M0 hf
      exact hB7  (fX7_number_L7 x1  n) ih x2 x3 M0 hf
  unfold fX7_number at hf
  refine wa_aload_n hC dX7_number_0 rfl 0 rfl ?_
  refine rg7_6 hC fiX7_number_7 mbX7_number_176 dX7_number_1 ?_
  refine wa_istore_n (lv' := [(2, .int _), (0, .ref _), (1, .int _)]) hC dX7_number_4 rfl (by decide) rfl ?_
  refine wa_iconst (v := 0) hC dX7_number_5 (by decide) ?_
  refine wa_istore_n (lv' := [(3, .int _), (2, .int _), (0, .ref _), (1, .int _)]) hC dX7_number_6 rfl (by decide) rfl ?_
  exact wa_sub [2, 3, 1, 0] rfl (hL7 FU _ _ _ hf)
abbrev rmX7_readsForm : Room := { frames := 2, cells := 0, slots := 0, locals := 45 }
theorem fiX7_readsForm_7 : ∀ w ∈ u_ws RX7 TX7 21, w ∈ wsX7_readsForm := by decide +kernel
theorem mbX7_readsForm_23 : Cond.fieldLink RX7 23 "BaroRunsModel" "got" "[I" ∈ wsX7_readsForm := by decide +kernel
theorem mbX7_readsForm_179 : Cond.fieldLink RX7 179 "BaroRunsModel" "whose" "I" ∈ wsX7_readsForm := by decide +kernel
set_option maxHeartbeats 4000000 in
set_option maxRecDepth 100000 in
theorem kX7_readsForm (l : Launch) (G : wG)  {M0 M1 : wM} {b : Bool} (hf : fX7_readsForm  M0 = some (b, M1)) : mI l yX7_readsForm wsX7_readsForm rmX7_readsForm G [.ref (ga G (96))] M0 (b2 b) M1 := by
  refine mI.of (cc := cX7_readsForm) (nL := 3) (ret := (some .boolean)) (own := RX7) (lv := [(0, .ref (ga G (96)))]) (plainFor_of_name (by decide +kernel)) rfl rfl (Nat.le_of_ble_eq_true rfl) rfl ?_
  intro p e s m args below meth c hC hr hlk
  have hJ191 : ∀ (x2 : Int32) (s1 : Int32) (s2 : Int32) (M0 : wM), fX7_readsForm_J191   x2 s1 s2 M0 = some (b, M1) → wAt p l e rmX7_readsForm s m args below meth c (qI below args s G (b2 b) M1) 3 G M0 191 [(0, .ref (ga G (96))), (2, .int (x2))] [.int (s2), .int (s1), .ref (ga G (101))] := by
    intro  x2 s1 s2 M0 hf
    unfold fX7_readsForm_J191 at hf
    obtain ⟨k1, h1, hf⟩ := bd hf
    obtain ⟨hv1, rfl⟩ := ix_some h1
    refine wa_iast hC (show kd 101 = 20 from rfl) hv1 rfl dX7_readsForm_191 ?_
    refine wa_iload_n hC dX7_readsForm_192 rfl 1 rfl ?_
    refine wa_if_lt hC 209 dX7_readsForm_193 (by decide) (fun c2 => ?_) (fun c2 => ?_)
    · have hf := ite_t hf c2
      refine wa_iconst (v := 0) hC dX7_readsForm_209 (by decide) ?_
      exact wa_zret hC hlk hr (congrArg b2 (congrArg Prod.fst (so_inj hf))) (congrArg Prod.snd (so_inj hf)) dX7_readsForm_210
    · have hf := ite_f hf c2
      refine wa_aload_n hC dX7_readsForm_196 rfl 0 rfl ?_
      refine wa_bipush (v := 59) hC dX7_readsForm_197 (by decide) ?_
      obtain ⟨⟨v3, M3⟩, h3, hf⟩ := bd hf
      dsimp only at hf
      refine wa_calli (rest := []) (wr_V hC (kX7_passes l G h3) (cwV 1 hC.1.2.2.2.2 gX7_readsForm_X7_passes rfl rfl rfl (by decide +kernel) ⟨Nat.le_of_ble_eq_true rfl, Nat.le_of_ble_eq_true rfl⟩) (show kd 96 = 7 from rfl) (by decide) (ce7 (show kd 96 = 7 from rfl)) rfl rfl rfl rfl (Nat.le_of_ble_eq_true rfl) dX7_readsForm_199) ?_
      refine wa_if_eq hC 209 dX7_readsForm_202 (by decide) (fun c4 => ?_) (fun c4 => ?_)
      · have hf := ite_t hf c4
        refine wa_iconst (v := 0) hC dX7_readsForm_209 (by decide) ?_
        exact wa_zret hC hlk hr (congrArg b2 (congrArg Prod.fst (so_inj hf))) (congrArg Prod.snd (so_inj hf)) dX7_readsForm_210
      · have hf := ite_f hf c4
        refine wa_iconst (v := 1) hC dX7_readsForm_205 (by decide) ?_
        refine wa_goto hC 210 dX7_readsForm_206 (by decide) ?_
        exact wa_zret hC hlk hr (congrArg b2 (congrArg Prod.fst (so_inj hf))) (congrArg Prod.snd (so_inj hf)) dX7_readsForm_210
  have hJ142 : ∀ (s1 : Int32) (s2 : Int32) (M0 : wM), fX7_readsForm_J142   s1 s2 M0 = some (b, M1) → wAt p l e rmX7_readsForm s m args below meth c (qI below args s G (b2 b) M1) 3 G M0 142 [(0, .ref (ga G (96)))] [.int (s2), .int (s1), .ref (ga G (101))] := by
    intro  s1 s2 M0 hf
    unfold fX7_readsForm_J142 at hf
    obtain ⟨k5, h5, hf⟩ := bd hf
    obtain ⟨hv5, rfl⟩ := ix_some h5
    refine wa_iast hC (show kd 101 = 20 from rfl) hv5 rfl dX7_readsForm_142 ?_
    refine wa_aload_n hC dX7_readsForm_143 rfl 0 rfl ?_
    refine rg7_9 hC fiX7_readsForm_7 mbX7_readsForm_23 dX7_readsForm_144 ?_
    refine wa_iconst (v := 1) hC dX7_readsForm_147 (by decide) ?_
    obtain ⟨k6, h6, hf⟩ := bd hf
    obtain ⟨hv6, rfl⟩ := ix_some h6
    refine wa_iald hC (show kd 101 = 20 from rfl) hv6 dX7_readsForm_148 ?_
    refine wa_if_lt hC 161 dX7_readsForm_149 (by decide) (fun c7 => ?_) (fun c7 => ?_)
    · have hf := ite_t hf c7
      refine wa_iconst (v := 0) hC dX7_readsForm_161 (by decide) ?_
      exact wa_zret hC hlk hr (congrArg b2 (congrArg Prod.fst (so_inj hf))) (congrArg Prod.snd (so_inj hf)) dX7_readsForm_162
    · have hf := ite_f hf c7
      refine wa_aload_n hC dX7_readsForm_152 rfl 0 rfl ?_
      refine wa_bipush (v := 99) hC dX7_readsForm_153 (by decide) ?_
      obtain ⟨⟨v8, M8⟩, h8, hf⟩ := bd hf
      dsimp only at hf
      refine wa_calli (rest := []) (wr_V hC (kX7_passes l G h8) (cwV 1 hC.1.2.2.2.2 gX7_readsForm_X7_passes rfl rfl rfl (by decide +kernel) ⟨Nat.le_of_ble_eq_true rfl, Nat.le_of_ble_eq_true rfl⟩) (show kd 96 = 7 from rfl) (by decide) (ce7 (show kd 96 = 7 from rfl)) rfl rfl rfl rfl (Nat.le_of_ble_eq_true rfl) dX7_readsForm_155) ?_
      refine wa_if_ne hC 163 dX7_readsForm_158 (by decide) (fun c9 => ?_) (fun c9 => ?_)
      · have hf := ite_f hf c9
        refine wa_aload_n hC dX7_readsForm_163 rfl 0 rfl ?_
        refine wa_bipush (v := 45) hC dX7_readsForm_164 (by decide) ?_
        obtain ⟨⟨v10, M10⟩, h10, hf⟩ := bd hf
        dsimp only at hf
        refine wa_calli (rest := []) (wr_V hC (kX7_passes l G h10) (cwV 1 hC.1.2.2.2.2 gX7_readsForm_X7_passes rfl rfl rfl (by decide +kernel) ⟨Nat.le_of_ble_eq_true rfl, Nat.le_of_ble_eq_true rfl⟩) (show kd 96 = 7 from rfl) (by decide) (ce7 (show kd 96 = 7 from rfl)) rfl rfl rfl rfl (Nat.le_of_ble_eq_true rfl) dX7_readsForm_166) ?_
        refine wa_istore_n (lv' := [(1, .int _), (0, .ref _)]) hC dX7_readsForm_169 rfl (by decide) rfl ?_
        refine wa_aload_n hC dX7_readsForm_170 rfl 1 rfl ?_
        refine wa_iconst (v := 3) hC dX7_readsForm_171 (by decide) ?_
        obtain ⟨⟨v11, M11⟩, h11, hf⟩ := bd hf
        dsimp only at hf
        refine wa_calli (rest := []) (wr_V hC (kX7_number l G h11) (cwV 1 hC.1.2.2.2.2 gX7_readsForm_X7_number rfl rfl rfl (by decide +kernel) ⟨Nat.le_of_ble_eq_true rfl, Nat.le_of_ble_eq_true rfl⟩) (show kd 96 = 7 from rfl) (by decide) (ce7 (show kd 96 = 7 from rfl)) rfl rfl rfl rfl (Nat.le_of_ble_eq_true rfl) dX7_readsForm_172) ?_
        refine wa_istore_n (lv' := [(2, .int _), (1, .int _), (0, .ref _)]) hC dX7_readsForm_175 rfl (by decide) rfl ?_
        refine wa_aload_n hC dX7_readsForm_176 rfl 2 rfl ?_
        refine rg7_9 hC fiX7_readsForm_7 mbX7_readsForm_23 dX7_readsForm_177 ?_
        refine wa_iconst (v := 2) hC dX7_readsForm_180 (by decide) ?_
        refine wa_iload_n hC dX7_readsForm_181 rfl 1 rfl ?_
        refine wa_if_eq hC 190 dX7_readsForm_182 (by decide) (fun c12 => ?_) (fun c12 => ?_)
        · have hf := ite_t hf c12
          refine wa_iload_n hC dX7_readsForm_190 rfl 0 rfl ?_
          exact wa_sub [2, 0] rfl (hJ191  _ _ _ _ hf)
        · have hf := ite_f hf c12
          refine wa_iload_n hC dX7_readsForm_185 rfl 0 rfl ?_
          refine wa_ineg hC dX7_readsForm_186 ?_
          refine wa_goto hC 191 dX7_readsForm_187 (by decide) ?_
          exact wa_sub [2, 0] rfl (hJ191  _ _ _ _ hf)
      · have hf := ite_t hf c9
        refine wa_iconst (v := 0) hC dX7_readsForm_161 (by decide) ?_
        exact wa_zret hC hlk hr (congrArg b2 (congrArg Prod.fst (so_inj hf))) (congrArg Prod.snd (so_inj hf)) dX7_readsForm_162
  have hJ108 : ∀ (s1 : Int32) (s2 : Int32) (M0 : wM), fX7_readsForm_J108   s1 s2 M0 = some (b, M1) → wAt p l e rmX7_readsForm s m args below meth c (qI below args s G (b2 b) M1) 3 G M0 108 [(0, .ref (ga G (96)))] [.int (s2), .int (s1), .ref (ga G (101))] := by
    intro  s1 s2 M0 hf
    unfold fX7_readsForm_J108 at hf
    obtain ⟨k13, h13, hf⟩ := bd hf
    obtain ⟨hv13, rfl⟩ := ix_some h13
    refine wa_iast hC (show kd 101 = 20 from rfl) hv13 rfl dX7_readsForm_108 ?_
    refine wa_aload_n hC dX7_readsForm_109 rfl 0 rfl ?_
    refine rg7_9 hC fiX7_readsForm_7 mbX7_readsForm_23 dX7_readsForm_110 ?_
    refine wa_iconst (v := 1) hC dX7_readsForm_113 (by decide) ?_
    refine wa_aload_n hC dX7_readsForm_114 rfl 0 rfl ?_
    refine rg7_9 hC fiX7_readsForm_7 mbX7_readsForm_23 dX7_readsForm_115 ?_
    refine wa_iconst (v := 0) hC dX7_readsForm_118 (by decide) ?_
    obtain ⟨k14, h14, hf⟩ := bd hf
    obtain ⟨hv14, rfl⟩ := ix_some h14
    refine wa_iald hC (show kd 101 = 20 from rfl) hv14 dX7_readsForm_119 ?_
    refine wa_if_lt hC 141 dX7_readsForm_120 (by decide) (fun c15 => ?_) (fun c15 => ?_)
    · have hf := ite_t hf c15
      refine wa_iconst (v := -1) hC dX7_readsForm_141 (by decide) ?_
      exact wa_sub [0] rfl (hJ142  _ _ _ hf)
    · have hf := ite_f hf c15
      refine wa_aload_n hC dX7_readsForm_123 rfl 0 rfl ?_
      refine wa_bipush (v := 112) hC dX7_readsForm_124 (by decide) ?_
      obtain ⟨⟨v16, M16⟩, h16, hf⟩ := bd hf
      dsimp only at hf
      refine wa_calli (rest := [_, _]) (wr_V hC (kX7_passes l G h16) (cwV 1 hC.1.2.2.2.2 gX7_readsForm_X7_passes rfl rfl rfl (by decide +kernel) ⟨Nat.le_of_ble_eq_true rfl, Nat.le_of_ble_eq_true rfl⟩) (show kd 96 = 7 from rfl) (by decide) (ce7 (show kd 96 = 7 from rfl)) rfl rfl rfl rfl (Nat.le_of_ble_eq_true rfl) dX7_readsForm_126) ?_
      refine wa_if_eq hC 141 dX7_readsForm_129 (by decide) (fun c17 => ?_) (fun c17 => ?_)
      · have hf := ite_t hf c17
        refine wa_iconst (v := -1) hC dX7_readsForm_141 (by decide) ?_
        exact wa_sub [0] rfl (hJ142  _ _ _ hf)
      · have hf := ite_f hf c17
        refine wa_aload_n hC dX7_readsForm_132 rfl 0 rfl ?_
        refine wa_bipush (v := 6) hC dX7_readsForm_133 (by decide) ?_
        obtain ⟨⟨v18, M18⟩, h18, hf⟩ := bd hf
        dsimp only at hf
        refine wa_calli (rest := [_, _]) (wr_V hC (kX7_number l G h18) (cwV 1 hC.1.2.2.2.2 gX7_readsForm_X7_number rfl rfl rfl (by decide +kernel) ⟨Nat.le_of_ble_eq_true rfl, Nat.le_of_ble_eq_true rfl⟩) (show kd 96 = 7 from rfl) (by decide) (ce7 (show kd 96 = 7 from rfl)) rfl rfl rfl rfl (Nat.le_of_ble_eq_true rfl) dX7_readsForm_135) ?_
        refine wa_goto hC 142 dX7_readsForm_138 (by decide) ?_
        exact wa_sub [0] rfl (hJ142  _ _ _ hf)
  have hJ85 : ∀ (M0 : wM), fX7_readsForm_J85    M0 = some (b, M1) → wAt p l e rmX7_readsForm s m args below meth c (qI below args s G (b2 b) M1) 3 G M0 85 [(0, .ref (ga G (96)))] [] := by
    intro   M0 hf
    unfold fX7_readsForm_J85 at hf
    refine wa_aload_n hC dX7_readsForm_85 rfl 0 rfl ?_
    refine rg7_9 hC fiX7_readsForm_7 mbX7_readsForm_23 dX7_readsForm_86 ?_
    refine wa_iconst (v := 0) hC dX7_readsForm_89 (by decide) ?_
    refine wa_aload_n hC dX7_readsForm_90 rfl 0 rfl ?_
    refine wa_bipush (v := 116) hC dX7_readsForm_91 (by decide) ?_
    obtain ⟨⟨v19, M19⟩, h19, hf⟩ := bd hf
    dsimp only at hf
    refine wa_calli (rest := [_, _]) (wr_V hC (kX7_passes l G h19) (cwV 1 hC.1.2.2.2.2 gX7_readsForm_X7_passes rfl rfl rfl (by decide +kernel) ⟨Nat.le_of_ble_eq_true rfl, Nat.le_of_ble_eq_true rfl⟩) (show kd 96 = 7 from rfl) (by decide) (ce7 (show kd 96 = 7 from rfl)) rfl rfl rfl rfl (Nat.le_of_ble_eq_true rfl) dX7_readsForm_93) ?_
    refine wa_if_eq hC 107 dX7_readsForm_96 (by decide) (fun c20 => ?_) (fun c20 => ?_)
    · have hf := ite_t hf c20
      refine wa_iconst (v := -1) hC dX7_readsForm_107 (by decide) ?_
      exact wa_sub [0] rfl (hJ108  _ _ _ hf)
    · have hf := ite_f hf c20
      refine wa_aload_n hC dX7_readsForm_99 rfl 0 rfl ?_
      refine wa_iconst (v := 5) hC dX7_readsForm_100 (by decide) ?_
      obtain ⟨⟨v21, M21⟩, h21, hf⟩ := bd hf
      dsimp only at hf
      refine wa_calli (rest := [_, _]) (wr_V hC (kX7_number l G h21) (cwV 1 hC.1.2.2.2.2 gX7_readsForm_X7_number rfl rfl rfl (by decide +kernel) ⟨Nat.le_of_ble_eq_true rfl, Nat.le_of_ble_eq_true rfl⟩) (show kd 96 = 7 from rfl) (by decide) (ce7 (show kd 96 = 7 from rfl)) rfl rfl rfl rfl (Nat.le_of_ble_eq_true rfl) dX7_readsForm_101) ?_
      refine wa_goto hC 108 dX7_readsForm_104 (by decide) ?_
      exact wa_sub [0] rfl (hJ108  _ _ _ hf)
  have hJ62 : ∀ (s1 : Int32) (s2 : Int32) (M0 : wM), fX7_readsForm_J62   s1 s2 M0 = some (b, M1) → wAt p l e rmX7_readsForm s m args below meth c (qI below args s G (b2 b) M1) 3 G M0 62 [(0, .ref (ga G (96)))] [.int (s2), .int (s1), .ref (ga G (101))] := by
    intro  s1 s2 M0 hf
    unfold fX7_readsForm_J62 at hf
    obtain ⟨k22, h22, hf⟩ := bd hf
    obtain ⟨hv22, rfl⟩ := ix_some h22
    refine wa_iast hC (show kd 101 = 20 from rfl) hv22 rfl dX7_readsForm_62 ?_
    refine wa_aload_n hC dX7_readsForm_63 rfl 0 rfl ?_
    refine rg7_9 hC fiX7_readsForm_7 mbX7_readsForm_23 dX7_readsForm_64 ?_
    refine wa_iconst (v := 3) hC dX7_readsForm_67 (by decide) ?_
    obtain ⟨k23, h23, hf⟩ := bd hf
    obtain ⟨hv23, rfl⟩ := ix_some h23
    refine wa_iald hC (show kd 101 = 20 from rfl) hv23 dX7_readsForm_68 ?_
    refine wa_if_ge hC 85 dX7_readsForm_69 (by decide) (fun c24 => ?_) (fun c24 => ?_)
    · have hf := ite_t hf c24
      exact wa_sub [0] rfl (hJ85   _ hf)
    · have hf := ite_f hf c24
      refine wa_iconst (v := 0) hC dX7_readsForm_72 (by decide) ?_
      exact wa_zret hC hlk hr (congrArg b2 (congrArg Prod.fst (so_inj hf))) (congrArg Prod.snd (so_inj hf)) dX7_readsForm_73
  unfold fX7_readsForm at hf
  refine wa_aload_n hC dX7_readsForm_0 rfl 0 rfl ?_
  refine wa_iconst (v := 0) hC dX7_readsForm_1 (by decide) ?_
  refine rp7_8 hC fiX7_readsForm_7 mbX7_readsForm_179 dX7_readsForm_2 ?_
  refine wa_aload_n hC dX7_readsForm_5 rfl 0 rfl ?_
  refine rg7_9 hC fiX7_readsForm_7 mbX7_readsForm_23 dX7_readsForm_6 ?_
  refine wa_iconst (v := 3) hC dX7_readsForm_9 (by decide) ?_
  refine wa_iconst (v := 0) hC dX7_readsForm_10 (by decide) ?_
  obtain ⟨k25, h25, hf⟩ := bd hf
  obtain ⟨hv25, rfl⟩ := ix_some h25
  refine wa_iast hC (show kd 101 = 20 from rfl) hv25 rfl dX7_readsForm_11 ?_
  refine wa_aload_n hC dX7_readsForm_12 rfl 0 rfl ?_
  refine wa_bipush (v := 99) hC dX7_readsForm_13 (by decide) ?_
  obtain ⟨⟨v26, M26⟩, h26, hf⟩ := bd hf
  dsimp only at hf
  refine wa_calli (rest := []) (wr_V hC (kX7_passes l G h26) (cwV 1 hC.1.2.2.2.2 gX7_readsForm_X7_passes rfl rfl rfl (by decide +kernel) ⟨Nat.le_of_ble_eq_true rfl, Nat.le_of_ble_eq_true rfl⟩) (show kd 96 = 7 from rfl) (by decide) (ce7 (show kd 96 = 7 from rfl)) rfl rfl rfl rfl (Nat.le_of_ble_eq_true rfl) dX7_readsForm_15) ?_
  refine wa_if_eq hC 74 dX7_readsForm_18 (by decide) (fun c27 => ?_) (fun c27 => ?_)
  · have hf := ite_t hf c27
    refine wa_aload_n hC dX7_readsForm_74 rfl 0 rfl ?_
    refine wa_bipush (v := 98) hC dX7_readsForm_75 (by decide) ?_
    obtain ⟨⟨v28, M28⟩, h28, hf⟩ := bd hf
    dsimp only at hf
    refine wa_calli (rest := []) (wr_V hC (kX7_passes l G h28) (cwV 1 hC.1.2.2.2.2 gX7_readsForm_X7_passes rfl rfl rfl (by decide +kernel) ⟨Nat.le_of_ble_eq_true rfl, Nat.le_of_ble_eq_true rfl⟩) (show kd 96 = 7 from rfl) (by decide) (ce7 (show kd 96 = 7 from rfl)) rfl rfl rfl rfl (Nat.le_of_ble_eq_true rfl) dX7_readsForm_77) ?_
    refine wa_if_ne hC 85 dX7_readsForm_80 (by decide) (fun c29 => ?_) (fun c29 => ?_)
    · have hf := ite_f hf c29
      exact wa_sub [0] rfl (hJ85   _ hf)
    · have hf := ite_t hf c29
      refine wa_iconst (v := 0) hC dX7_readsForm_83 (by decide) ?_
      exact wa_zret hC hlk hr (congrArg b2 (congrArg Prod.fst (so_inj hf))) (congrArg Prod.snd (so_inj hf)) dX7_readsForm_84
  · have hf := ite_f hf c27
    refine wa_aload_n hC dX7_readsForm_21 rfl 0 rfl ?_
    refine wa_aload_n hC dX7_readsForm_22 rfl 0 rfl ?_
    refine wa_iconst (v := 1) hC dX7_readsForm_23 (by decide) ?_
    obtain ⟨⟨v30, M30⟩, h30, hf⟩ := bd hf
    dsimp only at hf
    refine wa_calli (rest := [_]) (wr_V hC (kX7_number l G h30) (cwV 1 hC.1.2.2.2.2 gX7_readsForm_X7_number rfl rfl rfl (by decide +kernel) ⟨Nat.le_of_ble_eq_true rfl, Nat.le_of_ble_eq_true rfl⟩) (show kd 96 = 7 from rfl) (by decide) (ce7 (show kd 96 = 7 from rfl)) rfl rfl rfl rfl (Nat.le_of_ble_eq_true rfl) dX7_readsForm_24) ?_
    refine wa_iconst (v := 1) hC dX7_readsForm_27 (by decide) ?_
    refine wa_iadd hC dX7_readsForm_28 ?_
    refine rp7_8 hC fiX7_readsForm_7 mbX7_readsForm_179 dX7_readsForm_29 ?_
    refine wa_aload_n hC dX7_readsForm_32 rfl 0 rfl ?_
    refine rg7_9 hC fiX7_readsForm_7 mbX7_readsForm_23 dX7_readsForm_33 ?_
    refine wa_iconst (v := 3) hC dX7_readsForm_36 (by decide) ?_
    refine wa_aload_n hC dX7_readsForm_37 rfl 0 rfl ?_
    refine rg7_8 hC fiX7_readsForm_7 mbX7_readsForm_179 dX7_readsForm_38 ?_
    refine wa_if_le hC 61 dX7_readsForm_41 (by decide) (fun c31 => ?_) (fun c31 => ?_)
    · have hf := ite_t hf c31
      refine wa_iconst (v := -1) hC dX7_readsForm_61 (by decide) ?_
      exact wa_sub [0] rfl (hJ62  _ _ _ hf)
    · have hf := ite_f hf c31
      refine wa_aload_n hC dX7_readsForm_44 rfl 0 rfl ?_
      refine wa_bipush (v := 64) hC dX7_readsForm_45 (by decide) ?_
      obtain ⟨⟨v32, M32⟩, h32, hf⟩ := bd hf
      dsimp only at hf
      refine wa_calli (rest := [_, _]) (wr_V hC (kX7_passes l G h32) (cwV 1 hC.1.2.2.2.2 gX7_readsForm_X7_passes rfl rfl rfl (by decide +kernel) ⟨Nat.le_of_ble_eq_true rfl, Nat.le_of_ble_eq_true rfl⟩) (show kd 96 = 7 from rfl) (by decide) (ce7 (show kd 96 = 7 from rfl)) rfl rfl rfl rfl (Nat.le_of_ble_eq_true rfl) dX7_readsForm_47) ?_
      refine wa_if_eq hC 61 dX7_readsForm_50 (by decide) (fun c33 => ?_) (fun c33 => ?_)
      · have hf := ite_t hf c33
        refine wa_iconst (v := -1) hC dX7_readsForm_61 (by decide) ?_
        exact wa_sub [0] rfl (hJ62  _ _ _ hf)
      · have hf := ite_f hf c33
        refine wa_aload_n hC dX7_readsForm_53 rfl 0 rfl ?_
        refine wa_iconst (v := 1) hC dX7_readsForm_54 (by decide) ?_
        obtain ⟨⟨v34, M34⟩, h34, hf⟩ := bd hf
        dsimp only at hf
        refine wa_calli (rest := [_, _]) (wr_V hC (kX7_number l G h34) (cwV 1 hC.1.2.2.2.2 gX7_readsForm_X7_number rfl rfl rfl (by decide +kernel) ⟨Nat.le_of_ble_eq_true rfl, Nat.le_of_ble_eq_true rfl⟩) (show kd 96 = 7 from rfl) (by decide) (ce7 (show kd 96 = 7 from rfl)) rfl rfl rfl rfl (Nat.le_of_ble_eq_true rfl) dX7_readsForm_55) ?_
        refine wa_goto hC 62 dX7_readsForm_58 (by decide) ?_
        exact wa_sub [0] rfl (hJ62  _ _ _ hf)
abbrev rmX7_entersOne : Room := { frames := 3, cells := 0, slots := 0, locals := 74 }
theorem fiX7_entersOne_7 : ∀ w ∈ u_ws RX7 TX7 21, w ∈ wsX7_entersOne := by decide +kernel
theorem mbX7_entersOne_179 : Cond.fieldLink RX7 179 "BaroRunsModel" "whose" "I" ∈ wsX7_entersOne := by decide +kernel
theorem mbX7_entersOne_23 : Cond.fieldLink RX7 23 "BaroRunsModel" "got" "[I" ∈ wsX7_entersOne := by decide +kernel
set_option maxHeartbeats 4000000 in
set_option maxRecDepth 100000 in
theorem kX7_entersOne (l : Launch) (G : wG)  {M0 M1 : wM} {r : Int32} (hf : fX7_entersOne  M0 = some (r, M1)) : mI l yX7_entersOne wsX7_entersOne rmX7_entersOne G [.ref (ga G (96))] M0 r M1 := by
  refine mI.of (cc := cX7_entersOne) (nL := 1) (ret := (some .int)) (own := RX7) (lv := [(0, .ref (ga G (96)))]) (plainFor_of_name (by decide +kernel)) rfl rfl (Nat.le_of_ble_eq_true rfl) rfl ?_
  intro p e s m args below meth c hC hr hlk
  unfold fX7_entersOne at hf
  refine wa_aload_n hC dX7_entersOne_0 rfl 0 rfl ?_
  obtain ⟨⟨v1, M1⟩, h1, hf⟩ := bd hf
  dsimp only at hf
  refine wa_calli (rest := []) (wr_V hC (kX7_readsForm l G h1) (cwV 0 hC.1.2.2.2.2 gX7_entersOne_X7_readsForm rfl rfl rfl (by decide +kernel) ⟨Nat.le_of_ble_eq_true rfl, Nat.le_of_ble_eq_true rfl⟩) (show kd 96 = 7 from rfl) (by decide) (ce7 (show kd 96 = 7 from rfl)) rfl rfl rfl rfl (Nat.le_of_ble_eq_true rfl) dX7_entersOne_1) ?_
  refine wa_if_ne hC 9 dX7_entersOne_4 (by decide) (fun c2 => ?_) (fun c2 => ?_)
  · have hf := ite_f hf c2
    refine wa_aload_n hC dX7_entersOne_9 rfl 0 rfl ?_
    refine rg7_8 hC fiX7_entersOne_7 mbX7_entersOne_179 dX7_entersOne_10 ?_
    refine wa_iconst (v := 3) hC dX7_entersOne_13 (by decide) ?_
    refine wa_icmp_gt hC 41 dX7_entersOne_14 (by decide) (fun c3 => ?_) (fun c3 => ?_)
    · have hf := ite_t hf c3
      refine wa_iconst (v := 2) hC dX7_entersOne_41 (by decide) ?_
      exact wa_iret hC hlk hr (congrArg Prod.fst (so_inj hf)) (congrArg Prod.snd (so_inj hf)) dX7_entersOne_42
    · have hf := ite_f hf c3
      refine wa_aload_n hC dX7_entersOne_17 rfl 0 rfl ?_
      refine rg7_9 hC fiX7_entersOne_7 mbX7_entersOne_23 dX7_entersOne_18 ?_
      refine wa_iconst (v := 0) hC dX7_entersOne_21 (by decide) ?_
      obtain ⟨k4, h4, hf⟩ := bd hf
      obtain ⟨hv4, rfl⟩ := ix_some h4
      refine wa_iald hC (show kd 101 = 20 from rfl) hv4 dX7_entersOne_22 ?_
      refine wa_aload_n hC dX7_entersOne_23 rfl 0 rfl ?_
      refine rg7_9 hC fiX7_entersOne_7 mbX7_entersOne_23 dX7_entersOne_24 ?_
      refine wa_iconst (v := 1) hC dX7_entersOne_27 (by decide) ?_
      obtain ⟨k5, h5, hf⟩ := bd hf
      obtain ⟨hv5, rfl⟩ := ix_some h5
      refine wa_iald hC (show kd 101 = 20 from rfl) hv5 dX7_entersOne_28 ?_
      refine wa_aload_n hC dX7_entersOne_29 rfl 0 rfl ?_
      refine rg7_9 hC fiX7_entersOne_7 mbX7_entersOne_23 dX7_entersOne_30 ?_
      refine wa_iconst (v := 2) hC dX7_entersOne_33 (by decide) ?_
      obtain ⟨k6, h6, hf⟩ := bd hf
      obtain ⟨hv6, rfl⟩ := ix_some h6
      refine wa_iald hC (show kd 101 = 20 from rfl) hv6 dX7_entersOne_34 ?_
      obtain ⟨v7, h7, hf⟩ := bd hf
      refine wa_calli (rest := []) (wr_S hC (kX7_areValues l G h7) (va_cwS 3 hC.1.2.2.2.2 gX7_entersOne_X7_areValues rfl rfl rfl (by decide +kernel) ⟨Nat.le_of_ble_eq_true rfl, Nat.le_of_ble_eq_true rfl⟩) rfl rfl (Nat.le_of_ble_eq_true rfl) dX7_entersOne_35) ?_
      refine wa_if_ne hC 43 dX7_entersOne_38 (by decide) (fun c8 => ?_) (fun c8 => ?_)
      · have hf := ite_f hf c8
        refine wa_aload_n hC dX7_entersOne_43 rfl 0 rfl ?_
        refine wa_aload_n hC dX7_entersOne_44 rfl 0 rfl ?_
        refine rg7_8 hC fiX7_entersOne_7 mbX7_entersOne_179 dX7_entersOne_45 ?_
        refine wa_aload_n hC dX7_entersOne_48 rfl 0 rfl ?_
        refine rg7_9 hC fiX7_entersOne_7 mbX7_entersOne_23 dX7_entersOne_49 ?_
        refine wa_iconst (v := 0) hC dX7_entersOne_52 (by decide) ?_
        obtain ⟨k9, h9, hf⟩ := bd hf
        obtain ⟨hv9, rfl⟩ := ix_some h9
        refine wa_iald hC (show kd 101 = 20 from rfl) hv9 dX7_entersOne_53 ?_
        obtain ⟨v10, h10, hf⟩ := bd hf
        refine wa_calli (rest := []) (wr_V hC (kX7_isTaken l G h10) (cwV 2 hC.1.2.2.2.2 gX7_entersOne_X7_isTaken rfl rfl rfl (by decide +kernel) ⟨Nat.le_of_ble_eq_true rfl, Nat.le_of_ble_eq_true rfl⟩) (show kd 96 = 7 from rfl) (by decide) (ce7 (show kd 96 = 7 from rfl)) rfl rfl rfl rfl (Nat.le_of_ble_eq_true rfl) dX7_entersOne_54) ?_
        refine wa_if_eq hC 62 dX7_entersOne_57 (by decide) (fun c11 => ?_) (fun c11 => ?_)
        · have hf := ite_t hf c11
          refine wa_aload_n hC dX7_entersOne_62 rfl 0 rfl ?_
          refine wa_aload_n hC dX7_entersOne_63 rfl 0 rfl ?_
          refine rg7_8 hC fiX7_entersOne_7 mbX7_entersOne_179 dX7_entersOne_64 ?_
          obtain ⟨v12, h12, hf⟩ := bd hf
          refine wa_calli (rest := []) (wr_V hC (kX7_isFull l G h12) (cwV 1 hC.1.2.2.2.2 gX7_entersOne_X7_isFull rfl rfl rfl (by decide +kernel) ⟨Nat.le_of_ble_eq_true rfl, Nat.le_of_ble_eq_true rfl⟩) (show kd 96 = 7 from rfl) (by decide) (ce7 (show kd 96 = 7 from rfl)) rfl rfl rfl rfl (Nat.le_of_ble_eq_true rfl) dX7_entersOne_67) ?_
          refine wa_if_eq hC 75 dX7_entersOne_70 (by decide) (fun c13 => ?_) (fun c13 => ?_)
          · have hf := ite_t hf c13
            refine wa_aload_n hC dX7_entersOne_75 rfl 0 rfl ?_
            refine wa_aload_n hC dX7_entersOne_76 rfl 0 rfl ?_
            refine rg7_8 hC fiX7_entersOne_7 mbX7_entersOne_179 dX7_entersOne_77 ?_
            refine wa_aload_n hC dX7_entersOne_80 rfl 0 rfl ?_
            refine rg7_9 hC fiX7_entersOne_7 mbX7_entersOne_23 dX7_entersOne_81 ?_
            refine wa_iconst (v := 0) hC dX7_entersOne_84 (by decide) ?_
            obtain ⟨k14, h14, hf⟩ := bd hf
            obtain ⟨hv14, rfl⟩ := ix_some h14
            refine wa_iald hC (show kd 101 = 20 from rfl) hv14 dX7_entersOne_85 ?_
            refine wa_aload_n hC dX7_entersOne_86 rfl 0 rfl ?_
            refine rg7_9 hC fiX7_entersOne_7 mbX7_entersOne_23 dX7_entersOne_87 ?_
            refine wa_iconst (v := 1) hC dX7_entersOne_90 (by decide) ?_
            obtain ⟨k15, h15, hf⟩ := bd hf
            obtain ⟨hv15, rfl⟩ := ix_some h15
            refine wa_iald hC (show kd 101 = 20 from rfl) hv15 dX7_entersOne_91 ?_
            refine wa_aload_n hC dX7_entersOne_92 rfl 0 rfl ?_
            refine rg7_9 hC fiX7_entersOne_7 mbX7_entersOne_23 dX7_entersOne_93 ?_
            refine wa_iconst (v := 2) hC dX7_entersOne_96 (by decide) ?_
            obtain ⟨k16, h16, hf⟩ := bd hf
            obtain ⟨hv16, rfl⟩ := ix_some h16
            refine wa_iald hC (show kd 101 = 20 from rfl) hv16 dX7_entersOne_97 ?_
            refine wa_aload_n hC dX7_entersOne_98 rfl 0 rfl ?_
            refine rg7_9 hC fiX7_entersOne_7 mbX7_entersOne_23 dX7_entersOne_99 ?_
            refine wa_iconst (v := 3) hC dX7_entersOne_102 (by decide) ?_
            obtain ⟨k17, h17, hf⟩ := bd hf
            obtain ⟨hv17, rfl⟩ := ix_some h17
            refine wa_iald hC (show kd 101 = 20 from rfl) hv17 dX7_entersOne_103 ?_
            obtain ⟨⟨v18, M18⟩, h18, hf⟩ := bd hf
            dsimp only at hf
            refine wa_calli (rest := []) (wr_V hC (kX7_puts l G h18) (cwV 5 hC.1.2.2.2.2 gX7_entersOne_X7_puts rfl rfl rfl (by decide +kernel) ⟨Nat.le_of_ble_eq_true rfl, Nat.le_of_ble_eq_true rfl⟩) (show kd 96 = 7 from rfl) (by decide) (ce7 (show kd 96 = 7 from rfl)) rfl rfl rfl rfl (Nat.le_of_ble_eq_true rfl) dX7_entersOne_104) ?_
            refine wa_pop hC dX7_entersOne_107 rfl ?_
            refine wa_iconst (v := 0) hC dX7_entersOne_108 (by decide) ?_
            exact wa_iret hC hlk hr (congrArg Prod.fst (so_inj hf)) (congrArg Prod.snd (so_inj hf)) dX7_entersOne_109
          · have hf := ite_f hf c13
            refine wa_iconst (v := 4) hC dX7_entersOne_73 (by decide) ?_
            exact wa_iret hC hlk hr (congrArg Prod.fst (so_inj hf)) (congrArg Prod.snd (so_inj hf)) dX7_entersOne_74
        · have hf := ite_f hf c11
          refine wa_iconst (v := 3) hC dX7_entersOne_60 (by decide) ?_
          exact wa_iret hC hlk hr (congrArg Prod.fst (so_inj hf)) (congrArg Prod.snd (so_inj hf)) dX7_entersOne_61
      · have hf := ite_t hf c8
        refine wa_iconst (v := 2) hC dX7_entersOne_41 (by decide) ?_
        exact wa_iret hC hlk hr (congrArg Prod.fst (so_inj hf)) (congrArg Prod.snd (so_inj hf)) dX7_entersOne_42
  · have hf := ite_t hf c2
    refine wa_iconst (v := 1) hC dX7_entersOne_7 (by decide) ?_
    exact wa_iret hC hlk hr (congrArg Prod.fst (so_inj hf)) (congrArg Prod.snd (so_inj hf)) dX7_entersOne_8
abbrev rmX7_faulty : Room := { frames := 4, cells := 0, slots := 0, locals := 94 }
theorem fiX7_faulty_7 : ∀ w ∈ u_ws RX7 TX7 21, w ∈ wsX7_faulty := by decide +kernel
theorem mbX7_faulty_7 : Cond.fieldLink RX7 7 "BaroRunsModel" "d" "[I" ∈ wsX7_faulty := by decide +kernel
theorem mbX7_faulty_16 : Cond.fieldLink RX7 16 "BaroRunsModel" "aside" "[I" ∈ wsX7_faulty := by decide +kernel
theorem mbX7_faulty_176 : Cond.fieldLink RX7 176 "BaroRunsModel" "at" "I" ∈ wsX7_faulty := by decide +kernel
theorem mbX7_faulty_123 : Cond.fieldLink RX7 123 "BaroRunsModel" "typed" "I" ∈ wsX7_faulty := by decide +kernel
theorem mbX7_faulty_92 : Cond.constant RX7 92 (-2000000004) ∈ wsX7_faulty := by decide +kernel
theorem mbX7_faulty_196 : Cond.fieldLink RX7 196 "BaroRunsModel" "reason" "I" ∈ wsX7_faulty := by decide +kernel
set_option maxHeartbeats 4000000 in
set_option maxRecDepth 100000 in
theorem kX7_faulty (l : Launch) (G : wG)  {M0 M1 : wM} {r : Int32} (hf : fX7_faulty  M0 = some (r, M1)) : mI l yX7_faulty wsX7_faulty rmX7_faulty G [.ref (ga G (96))] M0 r M1 := by
  refine mI.of (cc := cX7_faulty) (nL := 3) (ret := (some .int)) (own := RX7) (lv := [(0, .ref (ga G (96)))]) (plainFor_of_name (by decide +kernel)) rfl rfl (Nat.le_of_ble_eq_true rfl) rfl ?_
  intro p e s m args below meth c hC hr hlk
  have hB83 : ∀ (bk83 : Int32 → Int32 → wM → Option (Int32 × wM)) (hbk83 : (∀ (x1 : Int32) (x2 : Int32) (M0 : wM), bk83 x1 x2 M0 = some (r, M1) → wAt p l e rmX7_faulty s m args below meth c (qI below args s G r M1) 3 G M0 83 [(0, .ref (ga G (96))), (1, .int (x1)), (2, .int (x2))] [])) (x1 : Int32) (x2 : Int32) (M0 : wM), fX7_faulty_B83  bk83 x1 x2 M0 = some (r, M1) → wAt p l e rmX7_faulty s m args below meth c (qI below args s G r M1) 3 G M0 83 [(0, .ref (ga G (96))), (1, .int (x1)), (2, .int (x2))] [] := by
    intro bk83 hbk83 x1 x2 M0 hf
    unfold fX7_faulty_B83 at hf
    refine wa_iload_n hC dX7_faulty_83 rfl 2 rfl ?_
    refine wa_sipush (v := 327) hC dX7_faulty_84 (by decide) ?_
    refine wa_icmp_ge hC 108 dX7_faulty_87 (by decide) (fun c1 => ?_) (fun c1 => ?_)
    · have hf := ite_t hf c1
      refine wa_iload_n hC dX7_faulty_108 rfl 1 rfl ?_
      exact wa_iret hC hlk hr (congrArg Prod.fst (so_inj hf)) (congrArg Prod.snd (so_inj hf)) dX7_faulty_109
    · have hf := ite_f hf c1
      refine wa_aload_n hC dX7_faulty_90 rfl 0 rfl ?_
      refine rg7_0 hC fiX7_faulty_7 mbX7_faulty_7 dX7_faulty_91 ?_
      refine wa_iload_n hC dX7_faulty_94 rfl 2 rfl ?_
      refine wa_aload_n hC dX7_faulty_95 rfl 0 rfl ?_
      refine rg7_3 hC fiX7_faulty_7 mbX7_faulty_16 dX7_faulty_96 ?_
      refine wa_iload_n hC dX7_faulty_99 rfl 2 rfl ?_
      obtain ⟨k2, h2, hf⟩ := bd hf
      obtain ⟨hv2, rfl⟩ := ix_some h2
      refine wa_iald hC (show kd 99 = 20 from rfl) hv2 dX7_faulty_100 ?_
      obtain ⟨k3, h3, hf⟩ := bd hf
      obtain ⟨hv3, rfl⟩ := ix_some h3
      refine wa_iast hC (show kd 97 = 20 from rfl) hv3 rfl dX7_faulty_101 ?_
      refine wa_iinc (v := _ + 1) (lv' := [(2, .int _), (0, .ref _), (1, .int _)]) hC dX7_faulty_102 (t := 2) rfl rfl (by decide) rfl ?_
      refine wa_goto hC 83 dX7_faulty_105 (by decide) ?_
      exact wa_sub [1, 2, 0] rfl (hbk83 _ _ _ hf)
  have hL83 : ∀ (n : Nat) (x1 : Int32) (x2 : Int32) (M0 : wM), fX7_faulty_L83   n x1 x2 M0 = some (r, M1) → wAt p l e rmX7_faulty s m args below meth c (qI below args s G r M1) 3 G M0 83 [(0, .ref (ga G (96))), (1, .int (x1)), (2, .int (x2))] [] := by
    intro  n
    induction n with
    | zero =>
      intro x1 x2 M0 hf
      exact absurd hf (by simp [fX7_faulty_L83])
    | succ n ih =>
      intro x1 x2 M0 hf
      exact hB83  (fX7_faulty_L83   n) ih x1 x2 M0 hf
  have hB35 : ∀ (bk35 : Int32 → wM → Option (Int32 × wM)) (hbk35 : (∀ (x1 : Int32) (M0 : wM), bk35 x1 M0 = some (r, M1) → wAt p l e rmX7_faulty s m args below meth c (qI below args s G r M1) 3 G M0 35 [(0, .ref (ga G (96))), (1, .int (x1))] [])) (x1 : Int32) (M0 : wM), fX7_faulty_B35  bk35 x1 M0 = some (r, M1) → wAt p l e rmX7_faulty s m args below meth c (qI below args s G r M1) 3 G M0 35 [(0, .ref (ga G (96))), (1, .int (x1))] [] := by
    intro bk35 hbk35 x1 M0 hf
    unfold fX7_faulty_B35 at hf
    refine wa_aload_n hC dX7_faulty_35 rfl 0 rfl ?_
    refine rg7_6 hC fiX7_faulty_7 mbX7_faulty_176 dX7_faulty_36 ?_
    refine wa_aload_n hC dX7_faulty_39 rfl 0 rfl ?_
    refine rg7_5 hC fiX7_faulty_7 mbX7_faulty_123 dX7_faulty_40 ?_
    refine wa_icmp_ge hC 81 dX7_faulty_43 (by decide) (fun c4 => ?_) (fun c4 => ?_)
    · have hf := ite_t hf c4
      refine wa_iconst (v := 0) hC dX7_faulty_81 (by decide) ?_
      refine wa_istore_n (lv' := [(2, .int _), (0, .ref _), (1, .int _)]) hC dX7_faulty_82 rfl (by decide) rfl ?_
      exact wa_sub [1, 2, 0] rfl (hL83 FU _ _ _ hf)
    · have hf := ite_f hf c4
      refine wa_iload_n hC dX7_faulty_46 rfl 1 rfl ?_
      refine wa_ldc hC mbX7_faulty_92 dX7_faulty_47 ?_
      refine wa_icmp_ne hC 81 dX7_faulty_49 (by decide) (fun c5 => ?_) (fun c5 => ?_)
      · have hf := ite_f hf c5
        refine wa_iconst (v := 0) hC dX7_faulty_81 (by decide) ?_
        refine wa_istore_n (lv' := [(2, .int _), (0, .ref _), (1, .int _)]) hC dX7_faulty_82 rfl (by decide) rfl ?_
        exact wa_sub [1, 2, 0] rfl (hL83 FU _ _ _ hf)
      · have hf := ite_t hf c5
        refine wa_aload_n hC dX7_faulty_52 rfl 0 rfl ?_
        refine rg7_6 hC fiX7_faulty_7 mbX7_faulty_176 dX7_faulty_53 ?_
        refine wa_istore_n (lv' := [(2, .int _), (0, .ref _), (1, .int _)]) hC dX7_faulty_56 rfl (by decide) rfl ?_
        refine wa_aload_n hC dX7_faulty_57 rfl 1 rfl ?_
        refine wa_aload_n hC dX7_faulty_58 rfl 1 rfl ?_
        obtain ⟨⟨v6, M6⟩, h6, hf⟩ := bd hf
        dsimp only at hf
        refine wa_calli (rest := [_]) (wr_V hC (kX7_entersOne l G h6) (cwV 0 hC.1.2.2.2.2 gX7_faulty_X7_entersOne rfl rfl rfl (by decide +kernel) ⟨Nat.le_of_ble_eq_true rfl, Nat.le_of_ble_eq_true rfl⟩) (show kd 96 = 7 from rfl) (by decide) (ce7 (show kd 96 = 7 from rfl)) rfl rfl rfl rfl (Nat.le_of_ble_eq_true rfl) dX7_faulty_59) ?_
        refine rp7_7 hC fiX7_faulty_7 mbX7_faulty_196 dX7_faulty_62 ?_
        refine wa_aload_n hC dX7_faulty_65 rfl 1 rfl ?_
        refine rg7_7 hC fiX7_faulty_7 mbX7_faulty_196 dX7_faulty_66 ?_
        refine wa_if_le hC 76 dX7_faulty_69 (by decide) (fun c7 => ?_) (fun c7 => ?_)
        · have hf := ite_t hf c7
          refine wa_iload_n hC dX7_faulty_76 rfl 2 rfl ?_
          refine wa_istore_n (lv' := [(1, .int _), (2, .int _), (0, .ref _)]) hC dX7_faulty_77 rfl (by decide) rfl ?_
          refine wa_goto hC 35 dX7_faulty_78 (by decide) ?_
          exact wa_sub [2, 0] rfl (hbk35 _ _ hf)
        · have hf := ite_f hf c7
          refine wa_iload_n hC dX7_faulty_72 rfl 0 rfl ?_
          refine wa_goto hC 77 dX7_faulty_73 (by decide) ?_
          refine wa_istore_n (lv' := [(1, .int _), (2, .int _), (0, .ref _)]) hC dX7_faulty_77 rfl (by decide) rfl ?_
          refine wa_goto hC 35 dX7_faulty_78 (by decide) ?_
          exact wa_sub [2, 0] rfl (hbk35 _ _ hf)
  have hL35 : ∀ (n : Nat) (x1 : Int32) (M0 : wM), fX7_faulty_L35   n x1 M0 = some (r, M1) → wAt p l e rmX7_faulty s m args below meth c (qI below args s G r M1) 3 G M0 35 [(0, .ref (ga G (96))), (1, .int (x1))] [] := by
    intro  n
    induction n with
    | zero =>
      intro x1 M0 hf
      exact absurd hf (by simp [fX7_faulty_L35])
    | succ n ih =>
      intro x1 M0 hf
      exact hB35  (fX7_faulty_L35   n) ih x1 M0 hf
  have hB2 : ∀ (bk2 : Int32 → wM → Option (Int32 × wM)) (hbk2 : (∀ (x1 : Int32) (M0 : wM), bk2 x1 M0 = some (r, M1) → wAt p l e rmX7_faulty s m args below meth c (qI below args s G r M1) 3 G M0 2 [(0, .ref (ga G (96))), (1, .int (x1))] [])) (x1 : Int32) (M0 : wM), fX7_faulty_B2  bk2 x1 M0 = some (r, M1) → wAt p l e rmX7_faulty s m args below meth c (qI below args s G r M1) 3 G M0 2 [(0, .ref (ga G (96))), (1, .int (x1))] [] := by
    intro bk2 hbk2 x1 M0 hf
    unfold fX7_faulty_B2 at hf
    refine wa_iload_n hC dX7_faulty_2 rfl 1 rfl ?_
    refine wa_sipush (v := 327) hC dX7_faulty_3 (by decide) ?_
    refine wa_icmp_ge hC 27 dX7_faulty_6 (by decide) (fun c8 => ?_) (fun c8 => ?_)
    · have hf := ite_t hf c8
      refine wa_ldc hC mbX7_faulty_92 dX7_faulty_27 ?_
      refine wa_istore_n (lv' := [(1, .int _), (0, .ref _)]) hC dX7_faulty_29 rfl (by decide) rfl ?_
      refine wa_aload_n hC dX7_faulty_30 rfl 1 rfl ?_
      refine wa_iconst (v := 0) hC dX7_faulty_31 (by decide) ?_
      refine rp7_6 hC fiX7_faulty_7 mbX7_faulty_176 dX7_faulty_32 ?_
      exact wa_sub [1, 0] rfl (hL35 FU _ _ hf)
    · have hf := ite_f hf c8
      refine wa_aload_n hC dX7_faulty_9 rfl 0 rfl ?_
      refine rg7_3 hC fiX7_faulty_7 mbX7_faulty_16 dX7_faulty_10 ?_
      refine wa_iload_n hC dX7_faulty_13 rfl 1 rfl ?_
      refine wa_aload_n hC dX7_faulty_14 rfl 0 rfl ?_
      refine rg7_0 hC fiX7_faulty_7 mbX7_faulty_7 dX7_faulty_15 ?_
      refine wa_iload_n hC dX7_faulty_18 rfl 1 rfl ?_
      obtain ⟨k9, h9, hf⟩ := bd hf
      obtain ⟨hv9, rfl⟩ := ix_some h9
      refine wa_iald hC (show kd 97 = 20 from rfl) hv9 dX7_faulty_19 ?_
      obtain ⟨k10, h10, hf⟩ := bd hf
      obtain ⟨hv10, rfl⟩ := ix_some h10
      refine wa_iast hC (show kd 99 = 20 from rfl) hv10 rfl dX7_faulty_20 ?_
      refine wa_iinc (v := _ + 1) (lv' := [(1, .int _), (0, .ref _)]) hC dX7_faulty_21 (t := 1) rfl rfl (by decide) rfl ?_
      refine wa_goto hC 2 dX7_faulty_24 (by decide) ?_
      exact wa_sub [1, 0] rfl (hbk2 _ _ hf)
  have hL2 : ∀ (n : Nat) (x1 : Int32) (M0 : wM), fX7_faulty_L2   n x1 M0 = some (r, M1) → wAt p l e rmX7_faulty s m args below meth c (qI below args s G r M1) 3 G M0 2 [(0, .ref (ga G (96))), (1, .int (x1))] [] := by
    intro  n
    induction n with
    | zero =>
      intro x1 M0 hf
      exact absurd hf (by simp [fX7_faulty_L2])
    | succ n ih =>
      intro x1 M0 hf
      exact hB2  (fX7_faulty_L2   n) ih x1 M0 hf
  unfold fX7_faulty at hf
  refine wa_iconst (v := 0) hC dX7_faulty_0 (by decide) ?_
  refine wa_istore_n (lv' := [(1, .int _), (0, .ref _)]) hC dX7_faulty_1 rfl (by decide) rfl ?_
  exact wa_sub [1, 0] rfl (hL2 FU _ _ hf)
abbrev rmX7_fault : Room := { frames := 5, cells := 0, slots := 0, locals := 116 }
theorem fiX7_fault_7 : ∀ w ∈ u_ws RX7 TX7 21, w ∈ wsX7_fault := by decide +kernel
theorem mbX7_fault_92 : Cond.constant RX7 92 (-2000000004) ∈ wsX7_fault := by decide +kernel
theorem mbX7_fault_196 : Cond.fieldLink RX7 196 "BaroRunsModel" "reason" "I" ∈ wsX7_fault := by decide +kernel
theorem mbX7_fault_55 : Cond.constant RX7 55 (-2000000001) ∈ wsX7_fault := by decide +kernel
set_option maxHeartbeats 4000000 in
set_option maxRecDepth 100000 in
theorem kX7_fault (l : Launch) (G : wG) {x1 : Int32} {M0 M1 : wM} {r : Int32} (hf : fX7_fault x1 M0 = some (r, M1)) : mI l yX7_fault wsX7_fault rmX7_fault G [.ref (ga G (96)), .int (x1)] M0 r M1 := by
  refine mI.of (cc := cX7_fault) (nL := 3) (ret := (some .int)) (own := RX7) (lv := [(0, .ref (ga G (96))), (1, .int (x1))]) (plainFor_of_name (by decide +kernel)) rfl rfl (Nat.le_of_ble_eq_true rfl) rfl ?_
  intro p e s m args below meth c hC hr hlk
  unfold fX7_fault at hf
  refine wa_iload_n hC dX7_fault_0 rfl 1 rfl ?_
  refine wa_iconst (v := 0) hC dX7_fault_1 (by decide) ?_
  refine wa_iconst (v := 1) hC dX7_fault_2 (by decide) ?_
  obtain ⟨v1, h1, hf⟩ := bd hf
  refine wa_calli (rest := []) (wr_S hC (kX7_in l G h1) (va_cwS 3 hC.1.2.2.2.2 gX7_fault_X7_in rfl rfl rfl (by decide +kernel) ⟨Nat.le_of_ble_eq_true rfl, Nat.le_of_ble_eq_true rfl⟩) rfl rfl (Nat.le_of_ble_eq_true rfl) dX7_fault_3) ?_
  refine wa_if_ne hC 12 dX7_fault_6 (by decide) (fun c2 => ?_) (fun c2 => ?_)
  · have hf := ite_f hf c2
    refine wa_aload_n hC dX7_fault_12 rfl 0 rfl ?_
    obtain ⟨⟨v3, M3⟩, h3, hf⟩ := bd hf
    dsimp only at hf
    refine wa_calli (rest := []) (wr_V hC (kX7_faulty l G h3) (cwV 0 hC.1.2.2.2.2 gX7_fault_X7_faulty rfl rfl rfl (by decide +kernel) ⟨Nat.le_of_ble_eq_true rfl, Nat.le_of_ble_eq_true rfl⟩) (show kd 96 = 7 from rfl) (by decide) (ce7 (show kd 96 = 7 from rfl)) rfl rfl rfl rfl (Nat.le_of_ble_eq_true rfl) dX7_fault_13) ?_
    refine wa_istore_n (lv' := [(2, .int _), (0, .ref _), (1, .int _)]) hC dX7_fault_16 rfl (by decide) rfl ?_
    refine wa_iload_n hC dX7_fault_17 rfl 0 rfl ?_
    refine wa_ldc hC mbX7_fault_92 dX7_fault_18 ?_
    refine wa_icmp_eq hC 27 dX7_fault_20 (by decide) (fun c4 => ?_) (fun c4 => ?_)
    · have hf := ite_t hf c4
      refine wa_iload_n hC dX7_fault_27 rfl 0 rfl ?_
      refine wa_goto hC 35 dX7_fault_28 (by decide) ?_
      exact wa_iret hC hlk hr (congrArg Prod.fst (so_inj hf)) (congrArg Prod.snd (so_inj hf)) dX7_fault_35
    · have hf := ite_f hf c4
      refine wa_iload_n hC dX7_fault_23 rfl 2 rfl ?_
      refine wa_if_ne hC 31 dX7_fault_24 (by decide) (fun c5 => ?_) (fun c5 => ?_)
      · have hf := ite_f hf c5
        refine wa_aload_n hC dX7_fault_31 rfl 1 rfl ?_
        refine rg7_7 hC fiX7_fault_7 mbX7_fault_196 dX7_fault_32 ?_
        exact wa_iret hC hlk hr (congrArg Prod.fst (so_inj hf)) (congrArg Prod.snd (so_inj hf)) dX7_fault_35
      · have hf := ite_t hf c5
        refine wa_iload_n hC dX7_fault_27 rfl 0 rfl ?_
        refine wa_goto hC 35 dX7_fault_28 (by decide) ?_
        exact wa_iret hC hlk hr (congrArg Prod.fst (so_inj hf)) (congrArg Prod.snd (so_inj hf)) dX7_fault_35
  · have hf := ite_t hf c2
    refine wa_ldc hC mbX7_fault_55 dX7_fault_9 ?_
    exact wa_iret hC hlk hr (congrArg Prod.fst (so_inj hf)) (congrArg Prod.snd (so_inj hf)) dX7_fault_11
abbrev rmX7_enter : Room := { frames := 5, cells := 0, slots := 0, locals := 116 }
theorem fiX7_enter_7 : ∀ w ∈ u_ws RX7 TX7 21, w ∈ wsX7_enter := by decide +kernel
theorem mbX7_enter_176 : Cond.fieldLink RX7 176 "BaroRunsModel" "at" "I" ∈ wsX7_enter := by decide +kernel
theorem mbX7_enter_123 : Cond.fieldLink RX7 123 "BaroRunsModel" "typed" "I" ∈ wsX7_enter := by decide +kernel
theorem mbX7_enter_92 : Cond.constant RX7 92 (-2000000004) ∈ wsX7_enter := by decide +kernel
theorem mbX7_enter_70 : Cond.constant RX7 70 (-2000000002) ∈ wsX7_enter := by decide +kernel
set_option maxHeartbeats 4000000 in
set_option maxRecDepth 100000 in
theorem kX7_enter (l : Launch) (G : wG)  {M0 M1 : wM} {r : Int32} (hf : fX7_enter  M0 = some (r, M1)) : mI l yX7_enter wsX7_enter rmX7_enter G [.ref (ga G (96))] M0 r M1 := by
  refine mI.of (cc := cX7_enter) (nL := 2) (ret := (some .int)) (own := RX7) (lv := [(0, .ref (ga G (96)))]) (plainFor_of_name (by decide +kernel)) rfl rfl (Nat.le_of_ble_eq_true rfl) rfl ?_
  intro p e s m args below meth c hC hr hlk
  have hB23 : ∀ (bk23 : Int32 → wM → Option (Int32 × wM)) (hbk23 : (∀ (x1 : Int32) (M0 : wM), bk23 x1 M0 = some (r, M1) → wAt p l e rmX7_enter s m args below meth c (qI below args s G r M1) 2 G M0 23 [(0, .ref (ga G (96))), (1, .int (x1))] [])) (x1 : Int32) (M0 : wM), fX7_enter_B23  bk23 x1 M0 = some (r, M1) → wAt p l e rmX7_enter s m args below meth c (qI below args s G r M1) 2 G M0 23 [(0, .ref (ga G (96))), (1, .int (x1))] [] := by
    intro bk23 hbk23 x1 M0 hf
    unfold fX7_enter_B23 at hf
    refine wa_aload_n hC dX7_enter_23 rfl 0 rfl ?_
    refine rg7_6 hC fiX7_enter_7 mbX7_enter_176 dX7_enter_24 ?_
    refine wa_aload_n hC dX7_enter_27 rfl 0 rfl ?_
    refine rg7_5 hC fiX7_enter_7 mbX7_enter_123 dX7_enter_28 ?_
    refine wa_icmp_ge hC 45 dX7_enter_31 (by decide) (fun c1 => ?_) (fun c1 => ?_)
    · have hf := ite_t hf c1
      refine wa_iload_n hC dX7_enter_45 rfl 1 rfl ?_
      exact wa_iret hC hlk hr (congrArg Prod.fst (so_inj hf)) (congrArg Prod.snd (so_inj hf)) dX7_enter_46
    · have hf := ite_f hf c1
      refine wa_aload_n hC dX7_enter_34 rfl 0 rfl ?_
      obtain ⟨⟨v2, M2⟩, h2, hf⟩ := bd hf
      dsimp only at hf
      refine wa_calli (rest := []) (wr_V hC (kX7_entersOne l G h2) (cwV 0 hC.1.2.2.2.2 gX7_enter_X7_entersOne rfl rfl rfl (by decide +kernel) ⟨Nat.le_of_ble_eq_true rfl, Nat.le_of_ble_eq_true rfl⟩) (show kd 96 = 7 from rfl) (by decide) (ce7 (show kd 96 = 7 from rfl)) rfl rfl rfl rfl (Nat.le_of_ble_eq_true rfl) dX7_enter_35) ?_
      refine wa_pop hC dX7_enter_38 rfl ?_
      refine wa_iinc (v := _ + 1) (lv' := [(1, .int _), (0, .ref _)]) hC dX7_enter_39 (t := 1) rfl rfl (by decide) rfl ?_
      refine wa_goto hC 23 dX7_enter_42 (by decide) ?_
      exact wa_sub [1, 0] rfl (hbk23 _ _ hf)
  have hL23 : ∀ (n : Nat) (x1 : Int32) (M0 : wM), fX7_enter_L23   n x1 M0 = some (r, M1) → wAt p l e rmX7_enter s m args below meth c (qI below args s G r M1) 2 G M0 23 [(0, .ref (ga G (96))), (1, .int (x1))] [] := by
    intro  n
    induction n with
    | zero =>
      intro x1 M0 hf
      exact absurd hf (by simp [fX7_enter_L23])
    | succ n ih =>
      intro x1 M0 hf
      exact hB23  (fX7_enter_L23   n) ih x1 M0 hf
  unfold fX7_enter at hf
  refine wa_aload_n hC dX7_enter_0 rfl 0 rfl ?_
  obtain ⟨⟨v3, M3⟩, h3, hf⟩ := bd hf
  dsimp only at hf
  refine wa_calli (rest := []) (wr_V hC (kX7_faulty l G h3) (cwV 0 hC.1.2.2.2.2 gX7_enter_X7_faulty rfl rfl rfl (by decide +kernel) ⟨Nat.le_of_ble_eq_true rfl, Nat.le_of_ble_eq_true rfl⟩) (show kd 96 = 7 from rfl) (by decide) (ce7 (show kd 96 = 7 from rfl)) rfl rfl rfl rfl (Nat.le_of_ble_eq_true rfl) dX7_enter_1) ?_
  refine wa_ldc hC mbX7_enter_92 dX7_enter_4 ?_
  refine wa_icmp_eq hC 12 dX7_enter_6 (by decide) (fun c4 => ?_) (fun c4 => ?_)
  · have hf := ite_t hf c4
    refine wa_aload_n hC dX7_enter_12 rfl 0 rfl ?_
    obtain ⟨M5, h5, hf⟩ := bd hf
    refine wa_callv (rest := []) (wr_V hC (kX7_records l G h5) (cwV 0 hC.1.2.2.2.2 gX7_enter_X7_records rfl rfl rfl (by decide +kernel) ⟨Nat.le_of_ble_eq_true rfl, Nat.le_of_ble_eq_true rfl⟩) (show kd 96 = 7 from rfl) (by decide) (ce7 (show kd 96 = 7 from rfl)) rfl rfl rfl rfl (Nat.le_of_ble_eq_true rfl) dX7_enter_13) ?_
    refine wa_iconst (v := 0) hC dX7_enter_16 (by decide) ?_
    refine wa_istore_n (lv' := [(1, .int _), (0, .ref _)]) hC dX7_enter_17 rfl (by decide) rfl ?_
    refine wa_aload_n hC dX7_enter_18 rfl 1 rfl ?_
    refine wa_iconst (v := 0) hC dX7_enter_19 (by decide) ?_
    refine rp7_6 hC fiX7_enter_7 mbX7_enter_176 dX7_enter_20 ?_
    exact wa_sub [1, 0] rfl (hL23 FU _ _ hf)
  · have hf := ite_f hf c4
    refine wa_ldc hC mbX7_enter_70 dX7_enter_9 ?_
    exact wa_iret hC hlk hr (congrArg Prod.fst (so_inj hf)) (congrArg Prod.snd (so_inj hf)) dX7_enter_11

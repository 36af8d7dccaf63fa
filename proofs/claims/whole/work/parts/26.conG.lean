abbrev rmX7_between : Room := { frames := 1, cells := 0, slots := 0, locals := 25 }
set_option maxHeartbeats 4000000 in
set_option maxRecDepth 100000 in
theorem kX7_between (l : Launch) (G : wG) {x0 : Int32} {x1 : Int32} {x2 : Int32} {x3 : Int32} {x4 : Int32} {M0 : wM} {r : Int32} (hf : fX7_between x0 x1 x2 x3 x4 M0 = some r) : mI l yX7_between wsX7_between rmX7_between G [.int (x0), .int (x1), .int (x2), .int (x3), .int (x4)] M0 r M0 := by
  refine mI.of (cc := cX7_between) (nL := 5) (ret := (some .int)) (own := RX7) (lv := [(0, .int (x0)), (1, .int (x1)), (2, .int (x2)), (3, .int (x3)), (4, .int (x4))]) (plainFor_of_name (by decide +kernel)) rfl rfl (Nat.le_of_ble_eq_true rfl) rfl ?_
  intro p e s m args below meth c hC hr hlk
  unfold fX7_between at hf
  refine wa_iload_n hC dX7_between_0 rfl 0 rfl ?_
  refine wa_iload_n hC dX7_between_1 rfl 1 rfl ?_
  refine wa_iload_n hC dX7_between_2 rfl 0 rfl ?_
  refine wa_isub hC dX7_between_3 ?_
  refine wa_i2l hC dX7_between_4 rfl ?_
  refine wa_iload_n hC dX7_between_5 rfl 2 rfl ?_
  refine wa_iload_n hC dX7_between_6 rfl 3 rfl ?_
  refine wa_isub hC dX7_between_7 ?_
  refine wa_i2l hC dX7_between_8 rfl ?_
  refine wa_lmul hC dX7_between_9 ?_
  refine wa_iload hC dX7_between_10 4 rfl ?_
  refine wa_iload_n hC dX7_between_12 rfl 3 rfl ?_
  refine wa_isub hC dX7_between_13 ?_
  refine wa_i2l hC dX7_between_14 rfl ?_
  obtain ⟨v1, h1, hf⟩ := bd hf
  refine wa_calll (rest := [_]) (wr_S hC (kX7_down l G h1) (va_cwS 2 hC.1.2.2.2.2 gX7_between_X7_down rfl rfl rfl (by decide +kernel) ⟨Nat.le_of_ble_eq_true rfl, Nat.le_of_ble_eq_true rfl⟩) rfl rfl (Nat.le_of_ble_eq_true rfl) dX7_between_15) ?_
  refine wa_l2i hC dX7_between_18 rfl ?_
  refine wa_iadd hC dX7_between_19 ?_
  exact wa_iret hC hlk hr (so_inj hf) rfl dX7_between_20
abbrev rmX7_hasBase : Room := { frames := 2, cells := 0, slots := 0, locals := 49 }
theorem fiX7_hasBase_7 : ∀ w ∈ u_ws RX7 TX7 21, w ∈ wsX7_hasBase := by decide +kernel
theorem mbX7_hasBase_7 : Cond.fieldLink RX7 7 "BaroRunsModel" "d" "[I" ∈ wsX7_hasBase := by decide +kernel
theorem mbX7_hasBase_130 : Cond.fieldLink RX7 130 "BaroRunsModel" "basePressure" "I" ∈ wsX7_hasBase := by decide +kernel
theorem mbX7_hasBase_133 : Cond.fieldLink RX7 133 "BaroRunsModel" "baseWarm" "I" ∈ wsX7_hasBase := by decide +kernel
set_option maxHeartbeats 4000000 in
set_option maxRecDepth 100000 in
theorem kX7_hasBase (l : Launch) (G : wG) {x1 : Int32} {M0 M1 : wM} {b : Bool} (hf : fX7_hasBase x1 M0 = some (b, M1)) : mI l yX7_hasBase wsX7_hasBase rmX7_hasBase G [.ref (ga G (96)), .int (x1)] M0 (b2 b) M1 := by
  refine mI.of (cc := cX7_hasBase) (nL := 5) (ret := (some .boolean)) (own := RX7) (lv := [(0, .ref (ga G (96))), (1, .int (x1))]) (plainFor_of_name (by decide +kernel)) rfl rfl (Nat.le_of_ble_eq_true rfl) rfl ?_
  intro p e s m args below meth c hC hr hlk
  have hJ131 : ∀ (bk2 : Int32 → wM → Option (Bool × wM)) (hbk2 : (∀ (x2 : Int32) (M0 : wM), bk2 x2 M0 = some (b, M1) → wAt p l e rmX7_hasBase s m args below meth c (qI below args s G (b2 b) M1) 5 G M0 2 [(0, .ref (ga G (96))), (1, .int (x1)), (2, .int (x2))] [])) (x2 : Int32) (x3 : Int32) (M0 : wM), fX7_hasBase_J131 x1 bk2 x2 x3 M0 = some (b, M1) → wAt p l e rmX7_hasBase s m args below meth c (qI below args s G (b2 b) M1) 5 G M0 131 [(0, .ref (ga G (96))), (1, .int (x1)), (2, .int (x2)), (3, .int (x3))] [] := by
    intro bk2 hbk2 x2 x3 M0 hf
    unfold fX7_hasBase_J131 at hf
    refine wa_iload_n hC dX7_hasBase_131 rfl 3 rfl ?_
    refine wa_iload_n hC dX7_hasBase_132 rfl 1 rfl ?_
    refine wa_icmp_le hC 138 dX7_hasBase_133 (by decide) (fun c1 => ?_) (fun c1 => ?_)
    · have hf := ite_t hf c1
      refine wa_iinc (v := _ + 1) (lv' := [(2, .int _), (0, .ref _), (1, .int _), (3, .int _)]) hC dX7_hasBase_138 (t := 2) rfl rfl (by decide) rfl ?_
      refine wa_goto hC 2 dX7_hasBase_141 (by decide) ?_
      exact wa_sub [1, 2, 0] rfl (hbk2 _ _ hf)
    · have hf := ite_f hf c1
      refine wa_iconst (v := 0) hC dX7_hasBase_136 (by decide) ?_
      exact wa_zret hC hlk hr (congrArg b2 (congrArg Prod.fst (so_inj hf))) (congrArg Prod.snd (so_inj hf)) dX7_hasBase_137
  have hB2 : ∀ (bk2 : Int32 → wM → Option (Bool × wM)) (hbk2 : (∀ (x2 : Int32) (M0 : wM), bk2 x2 M0 = some (b, M1) → wAt p l e rmX7_hasBase s m args below meth c (qI below args s G (b2 b) M1) 5 G M0 2 [(0, .ref (ga G (96))), (1, .int (x1)), (2, .int (x2))] [])) (x2 : Int32) (M0 : wM), fX7_hasBase_B2 x1 bk2 x2 M0 = some (b, M1) → wAt p l e rmX7_hasBase s m args below meth c (qI below args s G (b2 b) M1) 5 G M0 2 [(0, .ref (ga G (96))), (1, .int (x1)), (2, .int (x2))] [] := by
    intro bk2 hbk2 x2 M0 hf
    unfold fX7_hasBase_B2 at hf
    refine wa_iload_n hC dX7_hasBase_2 rfl 2 rfl ?_
    refine wa_aload_n hC dX7_hasBase_3 rfl 0 rfl ?_
    refine rg7_0 hC fiX7_hasBase_7 mbX7_hasBase_7 dX7_hasBase_4 ?_
    refine wa_iconst (v := 3) hC dX7_hasBase_7 (by decide) ?_
    obtain ⟨k2, h2, hf⟩ := bd hf
    obtain ⟨hv2, rfl⟩ := ix_some h2
    refine wa_iald hC (show kd 97 = 20 from rfl) hv2 dX7_hasBase_8 ?_
    refine wa_icmp_ge hC 144 dX7_hasBase_9 (by decide) (fun c3 => ?_) (fun c3 => ?_)
    · have hf := ite_t hf c3
      refine wa_iconst (v := 0) hC dX7_hasBase_144 (by decide) ?_
      exact wa_zret hC hlk hr (congrArg b2 (congrArg Prod.fst (so_inj hf))) (congrArg Prod.snd (so_inj hf)) dX7_hasBase_145
    · have hf := ite_f hf c3
      refine wa_aload_n hC dX7_hasBase_12 rfl 0 rfl ?_
      refine wa_iconst (v := 0) hC dX7_hasBase_13 (by decide) ?_
      refine wa_iconst (v := 0) hC dX7_hasBase_14 (by decide) ?_
      refine wa_iload_n hC dX7_hasBase_15 rfl 2 rfl ?_
      obtain ⟨v4, h4, hf⟩ := bd hf
      refine wa_calli (rest := []) (wr_V hC (kX7_of l G h4) (cwV 3 hC.1.2.2.2.2 gX7_hasBase_X7_of rfl rfl rfl (by decide +kernel) ⟨Nat.le_of_ble_eq_true rfl, Nat.le_of_ble_eq_true rfl⟩) (show kd 96 = 7 from rfl) (by decide) (ce7 (show kd 96 = 7 from rfl)) rfl rfl rfl rfl (Nat.le_of_ble_eq_true rfl) dX7_hasBase_16) ?_
      refine wa_istore_n (lv' := [(3, .int _), (0, .ref _), (1, .int _), (2, .int _)]) hC dX7_hasBase_19 rfl (by decide) rfl ?_
      refine wa_iload_n hC dX7_hasBase_20 rfl 0 rfl ?_
      refine wa_iload_n hC dX7_hasBase_21 rfl 2 rfl ?_
      refine wa_icmp_ne hC 51 dX7_hasBase_22 (by decide) (fun c5 => ?_) (fun c5 => ?_)
      · have hf := ite_f hf c5
        refine wa_iload_n hC dX7_hasBase_51 rfl 0 rfl ?_
        refine wa_iload_n hC dX7_hasBase_52 rfl 2 rfl ?_
        refine wa_icmp_le hC 131 dX7_hasBase_53 (by decide) (fun c6 => ?_) (fun c6 => ?_)
        · have hf := ite_t hf c6
          exact wa_sub [1, 2, 3, 0] rfl (hJ131 bk2 hbk2 _ _ _ hf)
        · have hf := ite_f hf c6
          refine wa_iload_n hC dX7_hasBase_56 rfl 3 rfl ?_
          refine wa_if_le hC 131 dX7_hasBase_57 (by decide) (fun c7 => ?_) (fun c7 => ?_)
          · have hf := ite_t hf c7
            exact wa_sub [1, 2, 3, 0] rfl (hJ131 bk2 hbk2 _ _ _ hf)
          · have hf := ite_f hf c7
            refine wa_aload_n hC dX7_hasBase_60 rfl 1 rfl ?_
            refine wa_iconst (v := 0) hC dX7_hasBase_61 (by decide) ?_
            refine wa_iconst (v := 0) hC dX7_hasBase_62 (by decide) ?_
            refine wa_iload_n hC dX7_hasBase_63 rfl 3 rfl ?_
            refine wa_iconst (v := 1) hC dX7_hasBase_64 (by decide) ?_
            refine wa_isub hC dX7_hasBase_65 ?_
            obtain ⟨v8, h8, hf⟩ := bd hf
            refine wa_calli (rest := []) (wr_V hC (kX7_of l G h8) (cwV 3 hC.1.2.2.2.2 gX7_hasBase_X7_of rfl rfl rfl (by decide +kernel) ⟨Nat.le_of_ble_eq_true rfl, Nat.le_of_ble_eq_true rfl⟩) (show kd 96 = 7 from rfl) (by decide) (ce7 (show kd 96 = 7 from rfl)) rfl rfl rfl rfl (Nat.le_of_ble_eq_true rfl) dX7_hasBase_66) ?_
            refine wa_istore (lv' := [(4, .int _), (3, .int _), (0, .ref _), (1, .int _), (2, .int _)]) hC dX7_hasBase_69 (by decide) rfl ?_
            refine wa_aload_n hC dX7_hasBase_71 rfl 2 rfl ?_
            refine wa_aload_n hC dX7_hasBase_72 rfl 2 rfl ?_
            refine wa_iconst (v := 0) hC dX7_hasBase_73 (by decide) ?_
            refine wa_bipush (v := 20) hC dX7_hasBase_74 (by decide) ?_
            refine wa_iload_n hC dX7_hasBase_76 rfl 4 rfl ?_
            refine wa_iconst (v := 1) hC dX7_hasBase_77 (by decide) ?_
            refine wa_isub hC dX7_hasBase_78 ?_
            obtain ⟨v9, h9, hf⟩ := bd hf
            refine wa_calli (rest := [_]) (wr_V hC (kX7_of l G h9) (cwV 3 hC.1.2.2.2.2 gX7_hasBase_X7_of rfl rfl rfl (by decide +kernel) ⟨Nat.le_of_ble_eq_true rfl, Nat.le_of_ble_eq_true rfl⟩) (show kd 96 = 7 from rfl) (by decide) (ce7 (show kd 96 = 7 from rfl)) rfl rfl rfl rfl (Nat.le_of_ble_eq_true rfl) dX7_hasBase_79) ?_
            refine wa_aload_n hC dX7_hasBase_82 rfl 2 rfl ?_
            refine wa_iconst (v := 0) hC dX7_hasBase_83 (by decide) ?_
            refine wa_bipush (v := 20) hC dX7_hasBase_84 (by decide) ?_
            refine wa_iload_n hC dX7_hasBase_86 rfl 4 rfl ?_
            obtain ⟨v10, h10, hf⟩ := bd hf
            refine wa_calli (rest := [_, _]) (wr_V hC (kX7_of l G h10) (cwV 3 hC.1.2.2.2.2 gX7_hasBase_X7_of rfl rfl rfl (by decide +kernel) ⟨Nat.le_of_ble_eq_true rfl, Nat.le_of_ble_eq_true rfl⟩) (show kd 96 = 7 from rfl) (by decide) (ce7 (show kd 96 = 7 from rfl)) rfl rfl rfl rfl (Nat.le_of_ble_eq_true rfl) dX7_hasBase_87) ?_
            refine wa_iload_n hC dX7_hasBase_90 rfl 3 rfl ?_
            refine wa_iload hC dX7_hasBase_91 0 rfl ?_
            refine wa_iload_n hC dX7_hasBase_93 rfl 1 rfl ?_
            obtain ⟨v11, h11, hf⟩ := bd hf
            refine wa_calli (rest := [_]) (wr_S hC (kX7_between l G h11) (va_cwS 5 hC.1.2.2.2.2 gX7_hasBase_X7_between rfl rfl rfl (by decide +kernel) ⟨Nat.le_of_ble_eq_true rfl, Nat.le_of_ble_eq_true rfl⟩) rfl rfl (Nat.le_of_ble_eq_true rfl) dX7_hasBase_94) ?_
            refine rp7_15 hC fiX7_hasBase_7 mbX7_hasBase_130 dX7_hasBase_97 ?_
            refine wa_aload_n hC dX7_hasBase_100 rfl 2 rfl ?_
            refine wa_aload_n hC dX7_hasBase_101 rfl 2 rfl ?_
            refine wa_iconst (v := 0) hC dX7_hasBase_102 (by decide) ?_
            refine wa_bipush (v := 40) hC dX7_hasBase_103 (by decide) ?_
            refine wa_iload_n hC dX7_hasBase_105 rfl 4 rfl ?_
            refine wa_iconst (v := 1) hC dX7_hasBase_106 (by decide) ?_
            refine wa_isub hC dX7_hasBase_107 ?_
            obtain ⟨v12, h12, hf⟩ := bd hf
            refine wa_calli (rest := [_]) (wr_V hC (kX7_of l G h12) (cwV 3 hC.1.2.2.2.2 gX7_hasBase_X7_of rfl rfl rfl (by decide +kernel) ⟨Nat.le_of_ble_eq_true rfl, Nat.le_of_ble_eq_true rfl⟩) (show kd 96 = 7 from rfl) (by decide) (ce7 (show kd 96 = 7 from rfl)) rfl rfl rfl rfl (Nat.le_of_ble_eq_true rfl) dX7_hasBase_108) ?_
            refine wa_aload_n hC dX7_hasBase_111 rfl 2 rfl ?_
            refine wa_iconst (v := 0) hC dX7_hasBase_112 (by decide) ?_
            refine wa_bipush (v := 40) hC dX7_hasBase_113 (by decide) ?_
            refine wa_iload_n hC dX7_hasBase_115 rfl 4 rfl ?_
            obtain ⟨v13, h13, hf⟩ := bd hf
            refine wa_calli (rest := [_, _]) (wr_V hC (kX7_of l G h13) (cwV 3 hC.1.2.2.2.2 gX7_hasBase_X7_of rfl rfl rfl (by decide +kernel) ⟨Nat.le_of_ble_eq_true rfl, Nat.le_of_ble_eq_true rfl⟩) (show kd 96 = 7 from rfl) (by decide) (ce7 (show kd 96 = 7 from rfl)) rfl rfl rfl rfl (Nat.le_of_ble_eq_true rfl) dX7_hasBase_116) ?_
            refine wa_iload_n hC dX7_hasBase_119 rfl 3 rfl ?_
            refine wa_iload hC dX7_hasBase_120 0 rfl ?_
            refine wa_iload_n hC dX7_hasBase_122 rfl 1 rfl ?_
            obtain ⟨v14, h14, hf⟩ := bd hf
            refine wa_calli (rest := [_]) (wr_S hC (kX7_between l G h14) (va_cwS 5 hC.1.2.2.2.2 gX7_hasBase_X7_between rfl rfl rfl (by decide +kernel) ⟨Nat.le_of_ble_eq_true rfl, Nat.le_of_ble_eq_true rfl⟩) rfl rfl (Nat.le_of_ble_eq_true rfl) dX7_hasBase_123) ?_
            refine rp7_16 hC fiX7_hasBase_7 mbX7_hasBase_133 dX7_hasBase_126 ?_
            refine wa_iconst (v := 1) hC dX7_hasBase_129 (by decide) ?_
            exact wa_zret hC hlk hr (congrArg b2 (congrArg Prod.fst (so_inj hf))) (congrArg Prod.snd (so_inj hf)) dX7_hasBase_130
      · have hf := ite_t hf c5
        refine wa_aload_n hC dX7_hasBase_25 rfl 1 rfl ?_
        refine wa_aload_n hC dX7_hasBase_26 rfl 1 rfl ?_
        refine wa_iconst (v := 0) hC dX7_hasBase_27 (by decide) ?_
        refine wa_bipush (v := 20) hC dX7_hasBase_28 (by decide) ?_
        refine wa_iload_n hC dX7_hasBase_30 rfl 3 rfl ?_
        obtain ⟨v15, h15, hf⟩ := bd hf
        refine wa_calli (rest := [_]) (wr_V hC (kX7_of l G h15) (cwV 3 hC.1.2.2.2.2 gX7_hasBase_X7_of rfl rfl rfl (by decide +kernel) ⟨Nat.le_of_ble_eq_true rfl, Nat.le_of_ble_eq_true rfl⟩) (show kd 96 = 7 from rfl) (by decide) (ce7 (show kd 96 = 7 from rfl)) rfl rfl rfl rfl (Nat.le_of_ble_eq_true rfl) dX7_hasBase_31) ?_
        refine rp7_15 hC fiX7_hasBase_7 mbX7_hasBase_130 dX7_hasBase_34 ?_
        refine wa_aload_n hC dX7_hasBase_37 rfl 1 rfl ?_
        refine wa_aload_n hC dX7_hasBase_38 rfl 1 rfl ?_
        refine wa_iconst (v := 0) hC dX7_hasBase_39 (by decide) ?_
        refine wa_bipush (v := 40) hC dX7_hasBase_40 (by decide) ?_
        refine wa_iload_n hC dX7_hasBase_42 rfl 3 rfl ?_
        obtain ⟨v16, h16, hf⟩ := bd hf
        refine wa_calli (rest := [_]) (wr_V hC (kX7_of l G h16) (cwV 3 hC.1.2.2.2.2 gX7_hasBase_X7_of rfl rfl rfl (by decide +kernel) ⟨Nat.le_of_ble_eq_true rfl, Nat.le_of_ble_eq_true rfl⟩) (show kd 96 = 7 from rfl) (by decide) (ce7 (show kd 96 = 7 from rfl)) rfl rfl rfl rfl (Nat.le_of_ble_eq_true rfl) dX7_hasBase_43) ?_
        refine rp7_16 hC fiX7_hasBase_7 mbX7_hasBase_133 dX7_hasBase_46 ?_
        refine wa_iconst (v := 1) hC dX7_hasBase_49 (by decide) ?_
        exact wa_zret hC hlk hr (congrArg b2 (congrArg Prod.fst (so_inj hf))) (congrArg Prod.snd (so_inj hf)) dX7_hasBase_50
  have hL2 : ∀ (n : Nat) (x2 : Int32) (M0 : wM), fX7_hasBase_L2 x1  n x2 M0 = some (b, M1) → wAt p l e rmX7_hasBase s m args below meth c (qI below args s G (b2 b) M1) 5 G M0 2 [(0, .ref (ga G (96))), (1, .int (x1)), (2, .int (x2))] [] := by
    intro  n
    induction n with
    | zero =>
      intro x2 M0 hf
      exact absurd hf (by simp [fX7_hasBase_L2])
    | succ n ih =>
      intro x2 M0 hf
      exact hB2  (fX7_hasBase_L2 x1  n) ih x2 M0 hf
  unfold fX7_hasBase at hf
  refine wa_iconst (v := 0) hC dX7_hasBase_0 (by decide) ?_
  refine wa_istore_n (lv' := [(2, .int _), (0, .ref _), (1, .int _)]) hC dX7_hasBase_1 rfl (by decide) rfl ?_
  exact wa_sub [1, 2, 0] rfl (hL2 FU _ _ hf)
abbrev rmX7_rawOf : Room := { frames := 1, cells := 0, slots := 0, locals := 25 }
theorem fiX7_rawOf_7 : ∀ w ∈ u_ws RX7 TX7 21, w ∈ wsX7_rawOf := by decide +kernel
theorem mbX7_rawOf_142 : Cond.constantLong RX7 142 (2732) ∈ wsX7_rawOf := by decide +kernel
theorem mbX7_rawOf_133 : Cond.fieldLink RX7 133 "BaroRunsModel" "baseWarm" "I" ∈ wsX7_rawOf := by decide +kernel
theorem mbX7_rawOf_144 : Cond.constantLong RX7 144 (2) ∈ wsX7_rawOf := by decide +kernel
theorem mbX7_rawOf_146 : Cond.constantLong RX7 146 (2930) ∈ wsX7_rawOf := by decide +kernel
theorem mbX7_rawOf_130 : Cond.fieldLink RX7 130 "BaroRunsModel" "basePressure" "I" ∈ wsX7_rawOf := by decide +kernel
theorem mbX7_rawOf_7 : Cond.fieldLink RX7 7 "BaroRunsModel" "d" "[I" ∈ wsX7_rawOf := by decide +kernel
set_option maxHeartbeats 4000000 in
set_option maxRecDepth 100000 in
theorem kX7_rawOf (l : Launch) (G : wG) {x1 : Int32} {x2 : Int32} {M0 : wM} {r : Int32} (hf : fX7_rawOf x1 x2 M0 = some r) : mI l yX7_rawOf wsX7_rawOf rmX7_rawOf G [.ref (ga G (96)), .int (x1), .int (x2)] M0 r M0 := by
  refine mI.of (cc := cX7_rawOf) (nL := 7) (ret := (some .int)) (own := RX7) (lv := [(0, .ref (ga G (96))), (1, .int (x1)), (2, .int (x2))]) (plainFor_of_name (by decide +kernel)) rfl rfl (Nat.le_of_ble_eq_true rfl) rfl ?_
  intro p e s m args below meth c hC hr hlk
  unfold fX7_rawOf at hf
  refine wa_ldc2 hC mbX7_rawOf_142 dX7_rawOf_0 ?_
  refine wa_aload_n hC dX7_rawOf_3 rfl 0 rfl ?_
  refine rg7_16 hC fiX7_rawOf_7 mbX7_rawOf_133 dX7_rawOf_4 ?_
  refine wa_iload_n hC dX7_rawOf_7 rfl 2 rfl ?_
  refine wa_iadd hC dX7_rawOf_8 ?_
  refine wa_i2l hC dX7_rawOf_9 rfl ?_
  refine wa_ldc2 hC mbX7_rawOf_144 dX7_rawOf_10 ?_
  obtain ⟨v1, h1, hf⟩ := bd hf
  refine wa_calll (rest := [_]) (wr_S hC (kX7_down l G h1) (va_cwS 2 hC.1.2.2.2.2 gX7_rawOf_X7_down rfl rfl rfl (by decide +kernel) ⟨Nat.le_of_ble_eq_true rfl, Nat.le_of_ble_eq_true rfl⟩) rfl rfl (Nat.le_of_ble_eq_true rfl) dX7_rawOf_13) ?_
  refine wa_ladd hC dX7_rawOf_16 ?_
  refine wa_lstore_n (lv' := [(3, .long _), (0, .ref _), (1, .int _), (2, .int _)]) hC dX7_rawOf_17 rfl (by decide) rfl ?_
  refine wa_ldc2 hC mbX7_rawOf_146 dX7_rawOf_18 ?_
  refine wa_lload_n hC dX7_rawOf_21 rfl 0 rfl ?_
  refine wa_lmul hC dX7_rawOf_22 ?_
  refine wa_aload_n hC dX7_rawOf_23 rfl 1 rfl ?_
  refine rg7_15 hC fiX7_rawOf_7 mbX7_rawOf_130 dX7_rawOf_24 ?_
  refine wa_iload_n hC dX7_rawOf_27 rfl 2 rfl ?_
  refine wa_isub hC dX7_rawOf_28 ?_
  refine wa_i2l hC dX7_rawOf_29 rfl ?_
  refine wa_lmul hC dX7_rawOf_30 ?_
  refine wa_lstore (lv' := [(5, .long _), (3, .long _), (0, .ref _), (1, .int _), (2, .int _)]) hC dX7_rawOf_31 (by decide) rfl ?_
  refine wa_aload_n hC dX7_rawOf_33 rfl 2 rfl ?_
  refine rg7_0 hC fiX7_rawOf_7 mbX7_rawOf_7 dX7_rawOf_34 ?_
  refine wa_iconst (v := 0) hC dX7_rawOf_37 (by decide) ?_
  obtain ⟨k2, h2, hf⟩ := bd hf
  obtain ⟨hv2, rfl⟩ := ix_some h2
  refine wa_iald hC (show kd 97 = 20 from rfl) hv2 dX7_rawOf_38 ?_
  refine wa_lload hC dX7_rawOf_39 0 rfl ?_
  refine wa_aload_n hC dX7_rawOf_41 rfl 2 rfl ?_
  refine rg7_15 hC fiX7_rawOf_7 mbX7_rawOf_130 dX7_rawOf_42 ?_
  refine wa_iload_n hC dX7_rawOf_45 rfl 3 rfl ?_
  refine wa_iadd hC dX7_rawOf_46 ?_
  refine wa_iconst (v := 2) hC dX7_rawOf_47 (by decide) ?_
  obtain ⟨v3, h3, hf⟩ := bd hf
  obtain ⟨hz3, rfl⟩ := dvI_some h3
  refine wa_idiv hC dX7_rawOf_48 hz3 ?_
  refine wa_i2l hC dX7_rawOf_49 rfl ?_
  obtain ⟨v4, h4, hf⟩ := bd hf
  refine wa_calll (rest := [_]) (wr_S hC (kX7_down l G h4) (va_cwS 2 hC.1.2.2.2.2 gX7_rawOf_X7_down rfl rfl rfl (by decide +kernel) ⟨Nat.le_of_ble_eq_true rfl, Nat.le_of_ble_eq_true rfl⟩) rfl rfl (Nat.le_of_ble_eq_true rfl) dX7_rawOf_50) ?_
  refine wa_l2i hC dX7_rawOf_53 rfl ?_
  refine wa_iadd hC dX7_rawOf_54 ?_
  exact wa_iret hC hlk hr (so_inj hf) rfl dX7_rawOf_55
abbrev rmX7_looks : Room := { frames := 3, cells := 0, slots := 0, locals := 73 }
theorem fiX7_looks_7 : ∀ w ∈ u_ws RX7 TX7 21, w ∈ wsX7_looks := by decide +kernel
theorem mbX7_looks_29 : Cond.fieldLink RX7 29 "BaroRunsModel" "isGood" "[Z" ∈ wsX7_looks := by decide +kernel
theorem mbX7_looks_33 : Cond.fieldLink RX7 33 "BaroRunsModel" "begin" "[I" ∈ wsX7_looks := by decide +kernel
theorem mbX7_looks_104 : Cond.fieldLink RX7 104 "BaroRunsModel" "loops" "I" ∈ wsX7_looks := by decide +kernel
theorem mbX7_looks_36 : Cond.fieldLink RX7 36 "BaroRunsModel" "end" "[I" ∈ wsX7_looks := by decide +kernel
theorem mbX7_looks_26 : Cond.fieldLink RX7 26 "BaroRunsModel" "raws" "[I" ∈ wsX7_looks := by decide +kernel
theorem mbX7_looks_7 : Cond.fieldLink RX7 7 "BaroRunsModel" "d" "[I" ∈ wsX7_looks := by decide +kernel
set_option maxHeartbeats 4000000 in
set_option maxRecDepth 100000 in
theorem kX7_looks (l : Launch) (G : wG) {x1 : Int32} {M0 M1 : wM} (hf : fX7_looks x1 M0 = some M1) : mV l yX7_looks wsX7_looks rmX7_looks G [.ref (ga G (96)), .int (x1)] M0 M1 := by
  refine mV.of (cc := cX7_looks) (nL := 4) (ret := none) (own := RX7) (lv := [(0, .ref (ga G (96))), (1, .int (x1))]) (plainFor_of_name (by decide +kernel)) rfl rfl (Nat.le_of_ble_eq_true rfl) rfl ?_
  intro p e s m args below meth c hC hr hlk
  have hJ134 : ∀ (bk7 : Int32 → wM → Option wM) (hbk7 : (∀ (x2 : Int32) (M0 : wM), bk7 x2 M0 = some M1 → wAt p l e rmX7_looks s m args below meth c (qV below args s G M1) 4 G M0 7 [(0, .ref (ga G (96))), (1, .int (x1)), (2, .int (x2))] [])) (x2 : Int32) (x3 : Int32) (M0 : wM), fX7_looks_J134 x1 bk7 x2 x3 M0 = some M1 → wAt p l e rmX7_looks s m args below meth c (qV below args s G M1) 4 G M0 134 [(0, .ref (ga G (96))), (1, .int (x1)), (2, .int (x2)), (3, .int (x3))] [] := by
    intro bk7 hbk7 x2 x3 M0 hf
    unfold fX7_looks_J134 at hf
    refine wa_aload_n hC dX7_looks_134 rfl 0 rfl ?_
    refine rg7_11 hC fiX7_looks_7 mbX7_looks_29 dX7_looks_135 ?_
    refine wa_iload_n hC dX7_looks_138 rfl 2 rfl ?_
    obtain ⟨k1, h1, hf⟩ := bd hf
    obtain ⟨hv1, rfl⟩ := ix_some h1
    refine wa_zald hC (show kd 103 = 22 from rfl) hv1 dX7_looks_139 ?_
    refine wa_if_eq hC 177 dX7_looks_140 (by decide) (fun c2 => ?_) (fun c2 => ?_)
    · have hf := ite_t hf c2
      refine wa_iinc (v := _ + 1) (lv' := [(2, .int _), (0, .ref _), (1, .int _), (3, .int _)]) hC dX7_looks_177 (t := 2) rfl rfl (by decide) rfl ?_
      refine wa_goto hC 7 dX7_looks_180 (by decide) ?_
      exact wa_sub [1, 2, 0] rfl (hbk7 _ _ hf)
    · have hf := ite_f hf c2
      refine wa_iload_n hC dX7_looks_143 rfl 3 rfl ?_
      refine wa_if_lt hC 177 dX7_looks_144 (by decide) (fun c3 => ?_) (fun c3 => ?_)
      · have hf := ite_t hf c3
        refine wa_iinc (v := _ + 1) (lv' := [(2, .int _), (0, .ref _), (1, .int _), (3, .int _)]) hC dX7_looks_177 (t := 2) rfl rfl (by decide) rfl ?_
        refine wa_goto hC 7 dX7_looks_180 (by decide) ?_
        exact wa_sub [1, 2, 0] rfl (hbk7 _ _ hf)
      · have hf := ite_f hf c3
        refine wa_aload_n hC dX7_looks_147 rfl 0 rfl ?_
        refine rg7_12 hC fiX7_looks_7 mbX7_looks_33 dX7_looks_148 ?_
        refine wa_aload_n hC dX7_looks_151 rfl 0 rfl ?_
        refine rg7_14 hC fiX7_looks_7 mbX7_looks_104 dX7_looks_152 ?_
        refine wa_iload_n hC dX7_looks_155 rfl 3 rfl ?_
        obtain ⟨k4, h4, hf⟩ := bd hf
        obtain ⟨hv4, rfl⟩ := ix_some h4
        refine wa_iast hC (show kd 104 = 20 from rfl) hv4 rfl dX7_looks_156 ?_
        refine wa_aload_n hC dX7_looks_157 rfl 0 rfl ?_
        refine rg7_13 hC fiX7_looks_7 mbX7_looks_36 dX7_looks_158 ?_
        refine wa_aload_n hC dX7_looks_161 rfl 0 rfl ?_
        refine rg7_14 hC fiX7_looks_7 mbX7_looks_104 dX7_looks_162 ?_
        refine wa_iload_n hC dX7_looks_165 rfl 2 rfl ?_
        obtain ⟨k5, h5, hf⟩ := bd hf
        obtain ⟨hv5, rfl⟩ := ix_some h5
        refine wa_iast hC (show kd 105 = 20 from rfl) hv5 rfl dX7_looks_166 ?_
        refine wa_aload_n hC dX7_looks_167 rfl 0 rfl ?_
        refine wa_dup hC dX7_looks_168 rfl ?_
        refine rg7_14 hC fiX7_looks_7 mbX7_looks_104 dX7_looks_169 ?_
        refine wa_iconst (v := 1) hC dX7_looks_172 (by decide) ?_
        refine wa_iadd hC dX7_looks_173 ?_
        refine rp7_14 hC fiX7_looks_7 mbX7_looks_104 dX7_looks_174 ?_
        refine wa_iinc (v := _ + 1) (lv' := [(2, .int _), (0, .ref _), (1, .int _), (3, .int _)]) hC dX7_looks_177 (t := 2) rfl rfl (by decide) rfl ?_
        refine wa_goto hC 7 dX7_looks_180 (by decide) ?_
        exact wa_sub [1, 2, 0] rfl (hbk7 _ _ hf)
  have hB96 : ∀ (bk7 : Int32 → wM → Option wM) (hbk7 : (∀ (x2 : Int32) (M0 : wM), bk7 x2 M0 = some M1 → wAt p l e rmX7_looks s m args below meth c (qV below args s G M1) 4 G M0 7 [(0, .ref (ga G (96))), (1, .int (x1)), (2, .int (x2))] [])) (bk96 : Int32 → Int32 → wM → Option wM) (hbk96 : (∀ (x2 : Int32) (x3 : Int32) (M0 : wM), bk96 x2 x3 M0 = some M1 → wAt p l e rmX7_looks s m args below meth c (qV below args s G M1) 4 G M0 96 [(0, .ref (ga G (96))), (1, .int (x1)), (2, .int (x2)), (3, .int (x3))] [])) (x2 : Int32) (x3 : Int32) (M0 : wM), fX7_looks_B96 x1 bk7 bk96 x2 x3 M0 = some M1 → wAt p l e rmX7_looks s m args below meth c (qV below args s G M1) 4 G M0 96 [(0, .ref (ga G (96))), (1, .int (x1)), (2, .int (x2)), (3, .int (x3))] [] := by
    intro bk7 hbk7 bk96 hbk96 x2 x3 M0 hf
    unfold fX7_looks_B96 at hf
    refine wa_iload_n hC dX7_looks_96 rfl 3 rfl ?_
    refine wa_if_lt hC 134 dX7_looks_97 (by decide) (fun c6 => ?_) (fun c6 => ?_)
    · have hf := ite_t hf c6
      exact wa_sub [0, 1, 2, 3] rfl (hJ134 bk7 hbk7 _ _ _ hf)
    · have hf := ite_f hf c6
      refine wa_aload_n hC dX7_looks_100 rfl 0 rfl ?_
      refine rg7_11 hC fiX7_looks_7 mbX7_looks_29 dX7_looks_101 ?_
      refine wa_iload_n hC dX7_looks_104 rfl 3 rfl ?_
      obtain ⟨k7, h7, hf⟩ := bd hf
      obtain ⟨hv7, rfl⟩ := ix_some h7
      refine wa_zald hC (show kd 103 = 22 from rfl) hv7 dX7_looks_105 ?_
      refine wa_if_eq hC 128 dX7_looks_106 (by decide) (fun c8 => ?_) (fun c8 => ?_)
      · have hf := ite_t hf c8
        refine wa_iinc (v := _ + -1) (lv' := [(3, .int _), (0, .ref _), (1, .int _), (2, .int _)]) hC dX7_looks_128 (t := 3) rfl rfl (by decide) rfl ?_
        refine wa_goto hC 96 dX7_looks_131 (by decide) ?_
        exact wa_sub [1, 2, 3, 0] rfl (hbk96 _ _ _ hf)
      · have hf := ite_f hf c8
        refine wa_aload_n hC dX7_looks_109 rfl 0 rfl ?_
        refine wa_iload_n hC dX7_looks_110 rfl 1 rfl ?_
        refine wa_bipush (v := 60) hC dX7_looks_111 (by decide) ?_
        refine wa_iload_n hC dX7_looks_113 rfl 3 rfl ?_
        obtain ⟨v9, h9, hf⟩ := bd hf
        refine wa_calli (rest := []) (wr_V hC (kX7_of l G h9) (cwV 3 hC.1.2.2.2.2 gX7_looks_X7_of rfl rfl rfl (by decide +kernel) ⟨Nat.le_of_ble_eq_true rfl, Nat.le_of_ble_eq_true rfl⟩) (show kd 96 = 7 from rfl) (by decide) (ce7 (show kd 96 = 7 from rfl)) rfl rfl rfl rfl (Nat.le_of_ble_eq_true rfl) dX7_looks_114) ?_
        refine wa_aload_n hC dX7_looks_117 rfl 0 rfl ?_
        refine wa_iload_n hC dX7_looks_118 rfl 1 rfl ?_
        refine wa_bipush (v := 60) hC dX7_looks_119 (by decide) ?_
        refine wa_iload_n hC dX7_looks_121 rfl 2 rfl ?_
        obtain ⟨v10, h10, hf⟩ := bd hf
        refine wa_calli (rest := [_]) (wr_V hC (kX7_of l G h10) (cwV 3 hC.1.2.2.2.2 gX7_looks_X7_of rfl rfl rfl (by decide +kernel) ⟨Nat.le_of_ble_eq_true rfl, Nat.le_of_ble_eq_true rfl⟩) (show kd 96 = 7 from rfl) (by decide) (ce7 (show kd 96 = 7 from rfl)) rfl rfl rfl rfl (Nat.le_of_ble_eq_true rfl) dX7_looks_122) ?_
        refine wa_icmp_eq hC 134 dX7_looks_125 (by decide) (fun c11 => ?_) (fun c11 => ?_)
        · have hf := ite_t hf c11
          exact wa_sub [0, 1, 2, 3] rfl (hJ134 bk7 hbk7 _ _ _ hf)
        · have hf := ite_f hf c11
          refine wa_iinc (v := _ + -1) (lv' := [(3, .int _), (0, .ref _), (1, .int _), (2, .int _)]) hC dX7_looks_128 (t := 3) rfl rfl (by decide) rfl ?_
          refine wa_goto hC 96 dX7_looks_131 (by decide) ?_
          exact wa_sub [1, 2, 3, 0] rfl (hbk96 _ _ _ hf)
  have hL96 : ∀ (bk7 : Int32 → wM → Option wM) (hbk7 : (∀ (x2 : Int32) (M0 : wM), bk7 x2 M0 = some M1 → wAt p l e rmX7_looks s m args below meth c (qV below args s G M1) 4 G M0 7 [(0, .ref (ga G (96))), (1, .int (x1)), (2, .int (x2))] [])) (n : Nat) (x2 : Int32) (x3 : Int32) (M0 : wM), fX7_looks_L96 x1 bk7 n x2 x3 M0 = some M1 → wAt p l e rmX7_looks s m args below meth c (qV below args s G M1) 4 G M0 96 [(0, .ref (ga G (96))), (1, .int (x1)), (2, .int (x2)), (3, .int (x3))] [] := by
    intro bk7 hbk7 n
    induction n with
    | zero =>
      intro x2 x3 M0 hf
      exact absurd hf (by simp [fX7_looks_L96])
    | succ n ih =>
      intro x2 x3 M0 hf
      exact hB96 bk7 hbk7 (fX7_looks_L96 x1 bk7 n) ih x2 x3 M0 hf
  have hJ91 : ∀ (bk7 : Int32 → wM → Option wM) (hbk7 : (∀ (x2 : Int32) (M0 : wM), bk7 x2 M0 = some M1 → wAt p l e rmX7_looks s m args below meth c (qV below args s G M1) 4 G M0 7 [(0, .ref (ga G (96))), (1, .int (x1)), (2, .int (x2))] [])) (x2 : Int32) (s1 : Int32) (s2 : Int32) (M0 : wM), fX7_looks_J91 x1 bk7 x2 s1 s2 M0 = some M1 → wAt p l e rmX7_looks s m args below meth c (qV below args s G M1) 4 G M0 91 [(0, .ref (ga G (96))), (1, .int (x1)), (2, .int (x2))] [.int (s2), .int (s1), .ref (ga G (102))] := by
    intro bk7 hbk7 x2 s1 s2 M0 hf
    unfold fX7_looks_J91 at hf
    obtain ⟨k12, h12, hf⟩ := bd hf
    obtain ⟨hv12, rfl⟩ := ix_some h12
    refine wa_iast hC (show kd 102 = 20 from rfl) hv12 rfl dX7_looks_91 ?_
    refine wa_iload_n hC dX7_looks_92 rfl 2 rfl ?_
    refine wa_iconst (v := 1) hC dX7_looks_93 (by decide) ?_
    refine wa_isub hC dX7_looks_94 ?_
    refine wa_istore_n (lv' := [(3, .int _), (0, .ref _), (1, .int _), (2, .int _)]) hC dX7_looks_95 rfl (by decide) rfl ?_
    exact wa_sub [1, 2, 3, 0] rfl (hL96 bk7 hbk7 FU _ _ _ hf)
  have hJ52 : ∀ (bk7 : Int32 → wM → Option wM) (hbk7 : (∀ (x2 : Int32) (M0 : wM), bk7 x2 M0 = some M1 → wAt p l e rmX7_looks s m args below meth c (qV below args s G M1) 4 G M0 7 [(0, .ref (ga G (96))), (1, .int (x1)), (2, .int (x2))] [])) (x2 : Int32) (s1 : Int32) (s2 : Int32) (M0 : wM), fX7_looks_J52 x1 bk7 x2 s1 s2 M0 = some M1 → wAt p l e rmX7_looks s m args below meth c (qV below args s G M1) 4 G M0 52 [(0, .ref (ga G (96))), (1, .int (x1)), (2, .int (x2))] [.int (s2), .int (s1), .ref (ga G (103))] := by
    intro bk7 hbk7 x2 s1 s2 M0 hf
    unfold fX7_looks_J52 at hf
    obtain ⟨k13, h13, hf⟩ := bd hf
    obtain ⟨hv13, rfl⟩ := ix_some h13
    refine wa_zast hC (show kd 103 = 22 from rfl) hv13 rfl dX7_looks_52 ?_
    refine wa_aload_n hC dX7_looks_53 rfl 0 rfl ?_
    refine rg7_10 hC fiX7_looks_7 mbX7_looks_26 dX7_looks_54 ?_
    refine wa_iload_n hC dX7_looks_57 rfl 2 rfl ?_
    refine wa_aload_n hC dX7_looks_58 rfl 0 rfl ?_
    refine rg7_11 hC fiX7_looks_7 mbX7_looks_29 dX7_looks_59 ?_
    refine wa_iload_n hC dX7_looks_62 rfl 2 rfl ?_
    obtain ⟨k14, h14, hf⟩ := bd hf
    obtain ⟨hv14, rfl⟩ := ix_some h14
    refine wa_zald hC (show kd 103 = 22 from rfl) hv14 dX7_looks_63 ?_
    refine wa_if_eq hC 90 dX7_looks_64 (by decide) (fun c15 => ?_) (fun c15 => ?_)
    · have hf := ite_t hf c15
      refine wa_iconst (v := 0) hC dX7_looks_90 (by decide) ?_
      exact wa_sub [0, 1, 2] rfl (hJ91 bk7 hbk7 _ _ _ _ hf)
    · have hf := ite_f hf c15
      refine wa_aload_n hC dX7_looks_67 rfl 0 rfl ?_
      refine wa_aload_n hC dX7_looks_68 rfl 0 rfl ?_
      refine wa_iload_n hC dX7_looks_69 rfl 1 rfl ?_
      refine wa_bipush (v := 20) hC dX7_looks_70 (by decide) ?_
      refine wa_iload_n hC dX7_looks_72 rfl 2 rfl ?_
      obtain ⟨v16, h16, hf⟩ := bd hf
      refine wa_calli (rest := [_, _, _]) (wr_V hC (kX7_of l G h16) (cwV 3 hC.1.2.2.2.2 gX7_looks_X7_of rfl rfl rfl (by decide +kernel) ⟨Nat.le_of_ble_eq_true rfl, Nat.le_of_ble_eq_true rfl⟩) (show kd 96 = 7 from rfl) (by decide) (ce7 (show kd 96 = 7 from rfl)) rfl rfl rfl rfl (Nat.le_of_ble_eq_true rfl) dX7_looks_73) ?_
      refine wa_aload_n hC dX7_looks_76 rfl 0 rfl ?_
      refine wa_iload_n hC dX7_looks_77 rfl 1 rfl ?_
      refine wa_bipush (v := 40) hC dX7_looks_78 (by decide) ?_
      refine wa_iload_n hC dX7_looks_80 rfl 2 rfl ?_
      obtain ⟨v17, h17, hf⟩ := bd hf
      refine wa_calli (rest := [_, _, _, _]) (wr_V hC (kX7_of l G h17) (cwV 3 hC.1.2.2.2.2 gX7_looks_X7_of rfl rfl rfl (by decide +kernel) ⟨Nat.le_of_ble_eq_true rfl, Nat.le_of_ble_eq_true rfl⟩) (show kd 96 = 7 from rfl) (by decide) (ce7 (show kd 96 = 7 from rfl)) rfl rfl rfl rfl (Nat.le_of_ble_eq_true rfl) dX7_looks_81) ?_
      obtain ⟨v18, h18, hf⟩ := bd hf
      refine wa_calli (rest := [_, _]) (wr_V hC (kX7_rawOf l G h18) (cwV 2 hC.1.2.2.2.2 gX7_looks_X7_rawOf rfl rfl rfl (by decide +kernel) ⟨Nat.le_of_ble_eq_true rfl, Nat.le_of_ble_eq_true rfl⟩) (show kd 96 = 7 from rfl) (by decide) (ce7 (show kd 96 = 7 from rfl)) rfl rfl rfl rfl (Nat.le_of_ble_eq_true rfl) dX7_looks_84) ?_
      refine wa_goto hC 91 dX7_looks_87 (by decide) ?_
      exact wa_sub [0, 1, 2] rfl (hJ91 bk7 hbk7 _ _ _ _ hf)
  have hB7 : ∀ (bk7 : Int32 → wM → Option wM) (hbk7 : (∀ (x2 : Int32) (M0 : wM), bk7 x2 M0 = some M1 → wAt p l e rmX7_looks s m args below meth c (qV below args s G M1) 4 G M0 7 [(0, .ref (ga G (96))), (1, .int (x1)), (2, .int (x2))] [])) (x2 : Int32) (M0 : wM), fX7_looks_B7 x1 bk7 x2 M0 = some M1 → wAt p l e rmX7_looks s m args below meth c (qV below args s G M1) 4 G M0 7 [(0, .ref (ga G (96))), (1, .int (x1)), (2, .int (x2))] [] := by
    intro bk7 hbk7 x2 M0 hf
    unfold fX7_looks_B7 at hf
    refine wa_iload_n hC dX7_looks_7 rfl 2 rfl ?_
    refine wa_aload_n hC dX7_looks_8 rfl 0 rfl ?_
    refine rg7_0 hC fiX7_looks_7 mbX7_looks_7 dX7_looks_9 ?_
    refine wa_iconst (v := 3) hC dX7_looks_12 (by decide) ?_
    refine wa_iload_n hC dX7_looks_13 rfl 1 rfl ?_
    refine wa_iadd hC dX7_looks_14 ?_
    obtain ⟨k19, h19, hf⟩ := bd hf
    obtain ⟨hv19, rfl⟩ := ix_some h19
    refine wa_iald hC (show kd 97 = 20 from rfl) hv19 dX7_looks_15 ?_
    refine wa_icmp_ge hC 183 dX7_looks_16 (by decide) (fun c20 => ?_) (fun c20 => ?_)
    · have hf := ite_t hf c20
      exact wa_vret hC hlk hr (so_inj hf) dX7_looks_183
    · have hf := ite_f hf c20
      refine wa_aload_n hC dX7_looks_19 rfl 0 rfl ?_
      refine rg7_11 hC fiX7_looks_7 mbX7_looks_29 dX7_looks_20 ?_
      refine wa_iload_n hC dX7_looks_23 rfl 2 rfl ?_
      refine wa_aload_n hC dX7_looks_24 rfl 0 rfl ?_
      refine wa_iload_n hC dX7_looks_25 rfl 1 rfl ?_
      refine wa_iload_n hC dX7_looks_26 rfl 2 rfl ?_
      obtain ⟨v21, h21, hf⟩ := bd hf
      refine wa_calli (rest := [_, _]) (wr_V hC (kX7_isGust l G h21) (cwV 2 hC.1.2.2.2.2 gX7_looks_X7_isGust rfl rfl rfl (by decide +kernel) ⟨Nat.le_of_ble_eq_true rfl, Nat.le_of_ble_eq_true rfl⟩) (show kd 96 = 7 from rfl) (by decide) (ce7 (show kd 96 = 7 from rfl)) rfl rfl rfl rfl (Nat.le_of_ble_eq_true rfl) dX7_looks_27) ?_
      refine wa_if_ne hC 51 dX7_looks_30 (by decide) (fun c22 => ?_) (fun c22 => ?_)
      · have hf := ite_f hf c22
        refine wa_iconst (v := 0) hC dX7_looks_51 (by decide) ?_
        exact wa_sub [0, 1, 2] rfl (hJ52 bk7 hbk7 _ _ _ _ hf)
      · have hf := ite_t hf c22
        refine wa_aload_n hC dX7_looks_33 rfl 0 rfl ?_
        refine wa_aload_n hC dX7_looks_34 rfl 0 rfl ?_
        refine wa_iload_n hC dX7_looks_35 rfl 1 rfl ?_
        refine wa_iconst (v := 0) hC dX7_looks_36 (by decide) ?_
        refine wa_iload_n hC dX7_looks_37 rfl 2 rfl ?_
        obtain ⟨v23, h23, hf⟩ := bd hf
        refine wa_calli (rest := [_, _, _]) (wr_V hC (kX7_of l G h23) (cwV 3 hC.1.2.2.2.2 gX7_looks_X7_of rfl rfl rfl (by decide +kernel) ⟨Nat.le_of_ble_eq_true rfl, Nat.le_of_ble_eq_true rfl⟩) (show kd 96 = 7 from rfl) (by decide) (ce7 (show kd 96 = 7 from rfl)) rfl rfl rfl rfl (Nat.le_of_ble_eq_true rfl) dX7_looks_38) ?_
        obtain ⟨⟨v24, M24⟩, h24, hf⟩ := bd hf
        dsimp only at hf
        refine wa_calli (rest := [_, _]) (wr_V hC (kX7_hasBase l G h24) (cwV 1 hC.1.2.2.2.2 gX7_looks_X7_hasBase rfl rfl rfl (by decide +kernel) ⟨Nat.le_of_ble_eq_true rfl, Nat.le_of_ble_eq_true rfl⟩) (show kd 96 = 7 from rfl) (by decide) (ce7 (show kd 96 = 7 from rfl)) rfl rfl rfl rfl (Nat.le_of_ble_eq_true rfl) dX7_looks_41) ?_
        refine wa_if_eq hC 51 dX7_looks_44 (by decide) (fun c25 => ?_) (fun c25 => ?_)
        · have hf := ite_t hf c25
          refine wa_iconst (v := 0) hC dX7_looks_51 (by decide) ?_
          exact wa_sub [0, 1, 2] rfl (hJ52 bk7 hbk7 _ _ _ _ hf)
        · have hf := ite_f hf c25
          refine wa_iconst (v := 1) hC dX7_looks_47 (by decide) ?_
          refine wa_goto hC 52 dX7_looks_48 (by decide) ?_
          exact wa_sub [0, 1, 2] rfl (hJ52 bk7 hbk7 _ _ _ _ hf)
  have hL7 : ∀ (n : Nat) (x2 : Int32) (M0 : wM), fX7_looks_L7 x1  n x2 M0 = some M1 → wAt p l e rmX7_looks s m args below meth c (qV below args s G M1) 4 G M0 7 [(0, .ref (ga G (96))), (1, .int (x1)), (2, .int (x2))] [] := by
    intro  n
    induction n with
    | zero =>
      intro x2 M0 hf
      exact absurd hf (by simp [fX7_looks_L7])
    | succ n ih =>
      intro x2 M0 hf
      exact hB7  (fX7_looks_L7 x1  n) ih x2 M0 hf
  unfold fX7_looks at hf
  refine wa_aload_n hC dX7_looks_0 rfl 0 rfl ?_
  refine wa_iconst (v := 0) hC dX7_looks_1 (by decide) ?_
  refine rp7_14 hC fiX7_looks_7 mbX7_looks_104 dX7_looks_2 ?_
  refine wa_iconst (v := 0) hC dX7_looks_5 (by decide) ?_
  refine wa_istore_n (lv' := [(2, .int _), (0, .ref _), (1, .int _)]) hC dX7_looks_6 rfl (by decide) rfl ?_
  exact wa_sub [1, 2, 0] rfl (hL7 FU _ _ hf)
abbrev rmX7_reading : Room := { frames := 4, cells := 0, slots := 0, locals := 96 }
theorem fiX7_reading_7 : ∀ w ∈ u_ws RX7 TX7 21, w ∈ wsX7_reading := by decide +kernel
theorem mbX7_reading_29 : Cond.fieldLink RX7 29 "BaroRunsModel" "isGood" "[Z" ∈ wsX7_reading := by decide +kernel
theorem mbX7_reading_55 : Cond.constant RX7 55 (-2000000001) ∈ wsX7_reading := by decide +kernel
theorem mbX7_reading_92 : Cond.constant RX7 92 (-2000000004) ∈ wsX7_reading := by decide +kernel
set_option maxHeartbeats 4000000 in
set_option maxRecDepth 100000 in
theorem kX7_reading (l : Launch) (G : wG) {x1 : Int32} {x2 : Int32} {x3 : Int32} {M0 M1 : wM} {r : Int32} (hf : fX7_reading x1 x2 x3 M0 = some (r, M1)) : mI l yX7_reading wsX7_reading rmX7_reading G [.ref (ga G (96)), .int (x1), .int (x2), .int (x3)] M0 r M1 := by
  refine mI.of (cc := cX7_reading) (nL := 5) (ret := (some .int)) (own := RX7) (lv := [(0, .ref (ga G (96))), (1, .int (x1)), (2, .int (x2)), (3, .int (x3))]) (plainFor_of_name (by decide +kernel)) rfl rfl (Nat.le_of_ble_eq_true rfl) rfl ?_
  intro p e s m args below meth c hC hr hlk
  have hJ39 : ∀ (x4 : Int32) (M0 : wM), fX7_reading_J39 x1 x2 x3  x4 M0 = some (r, M1) → wAt p l e rmX7_reading s m args below meth c (qI below args s G r M1) 5 G M0 39 [(0, .ref (ga G (96))), (2, .int (x2)), (3, .int (x3)), (4, .int (x4))] [] := by
    intro  x4 M0 hf
    unfold fX7_reading_J39 at hf
    refine wa_iload_n hC dX7_reading_39 rfl 2 rfl ?_
    refine wa_iconst (v := 4) hC dX7_reading_40 (by decide) ?_
    refine wa_icmp_ne hC 60 dX7_reading_41 (by decide) (fun c1 => ?_) (fun c1 => ?_)
    · have hf := ite_f hf c1
      refine wa_iload_n hC dX7_reading_60 rfl 2 rfl ?_
      refine wa_iconst (v := 5) hC dX7_reading_61 (by decide) ?_
      refine wa_icmp_ne hC 86 dX7_reading_62 (by decide) (fun c2 => ?_) (fun c2 => ?_)
      · have hf := ite_f hf c2
        refine wa_aload_n hC dX7_reading_86 rfl 0 rfl ?_
        refine wa_iload hC dX7_reading_87 3 rfl ?_
        refine wa_bipush (v := 20) hC dX7_reading_89 (by decide) ?_
        refine wa_iload_n hC dX7_reading_91 rfl 2 rfl ?_
        refine wa_imul hC dX7_reading_92 ?_
        refine wa_iload_n hC dX7_reading_93 rfl 1 rfl ?_
        obtain ⟨v3, h3, hf⟩ := bd hf
        refine wa_calli (rest := []) (wr_V hC (kX7_of l G h3) (cwV 3 hC.1.2.2.2.2 gX7_reading_X7_of rfl rfl rfl (by decide +kernel) ⟨Nat.le_of_ble_eq_true rfl, Nat.le_of_ble_eq_true rfl⟩) (show kd 96 = 7 from rfl) (by decide) (ce7 (show kd 96 = 7 from rfl)) rfl rfl rfl rfl (Nat.le_of_ble_eq_true rfl) dX7_reading_94) ?_
        exact wa_iret hC hlk hr (congrArg Prod.fst (so_inj hf)) (congrArg Prod.snd (so_inj hf)) dX7_reading_97
      · have hf := ite_t hf c2
        refine wa_aload_n hC dX7_reading_65 rfl 0 rfl ?_
        refine wa_iload hC dX7_reading_66 3 rfl ?_
        obtain ⟨M4, h4, hf⟩ := bd hf
        refine wa_callv (rest := []) (wr_V hC (kX7_looks l G h4) (cwV 1 hC.1.2.2.2.2 gX7_reading_X7_looks rfl rfl rfl (by decide +kernel) ⟨Nat.le_of_ble_eq_true rfl, Nat.le_of_ble_eq_true rfl⟩) (show kd 96 = 7 from rfl) (by decide) (ce7 (show kd 96 = 7 from rfl)) rfl rfl rfl rfl (Nat.le_of_ble_eq_true rfl) dX7_reading_68) ?_
        refine wa_aload_n hC dX7_reading_71 rfl 0 rfl ?_
        refine rg7_11 hC fiX7_reading_7 mbX7_reading_29 dX7_reading_72 ?_
        refine wa_iload_n hC dX7_reading_75 rfl 1 rfl ?_
        obtain ⟨k5, h5, hf⟩ := bd hf
        obtain ⟨hv5, rfl⟩ := ix_some h5
        refine wa_zald hC (show kd 103 = 22 from rfl) hv5 dX7_reading_76 ?_
        refine wa_if_eq hC 84 dX7_reading_77 (by decide) (fun c6 => ?_) (fun c6 => ?_)
        · have hf := ite_t hf c6
          refine wa_iconst (v := 0) hC dX7_reading_84 (by decide) ?_
          exact wa_iret hC hlk hr (congrArg Prod.fst (so_inj hf)) (congrArg Prod.snd (so_inj hf)) dX7_reading_85
        · have hf := ite_f hf c6
          refine wa_iconst (v := 1) hC dX7_reading_80 (by decide) ?_
          refine wa_goto hC 85 dX7_reading_81 (by decide) ?_
          exact wa_iret hC hlk hr (congrArg Prod.fst (so_inj hf)) (congrArg Prod.snd (so_inj hf)) dX7_reading_85
    · have hf := ite_t hf c1
      refine wa_aload_n hC dX7_reading_44 rfl 0 rfl ?_
      refine wa_iload hC dX7_reading_45 3 rfl ?_
      refine wa_iload_n hC dX7_reading_47 rfl 1 rfl ?_
      obtain ⟨v7, h7, hf⟩ := bd hf
      refine wa_calli (rest := []) (wr_V hC (kX7_isGust l G h7) (cwV 2 hC.1.2.2.2.2 gX7_reading_X7_isGust rfl rfl rfl (by decide +kernel) ⟨Nat.le_of_ble_eq_true rfl, Nat.le_of_ble_eq_true rfl⟩) (show kd 96 = 7 from rfl) (by decide) (ce7 (show kd 96 = 7 from rfl)) rfl rfl rfl rfl (Nat.le_of_ble_eq_true rfl) dX7_reading_48) ?_
      refine wa_if_eq hC 58 dX7_reading_51 (by decide) (fun c8 => ?_) (fun c8 => ?_)
      · have hf := ite_t hf c8
        refine wa_iconst (v := 0) hC dX7_reading_58 (by decide) ?_
        exact wa_iret hC hlk hr (congrArg Prod.fst (so_inj hf)) (congrArg Prod.snd (so_inj hf)) dX7_reading_59
      · have hf := ite_f hf c8
        refine wa_iconst (v := 1) hC dX7_reading_54 (by decide) ?_
        refine wa_goto hC 59 dX7_reading_55 (by decide) ?_
        exact wa_iret hC hlk hr (congrArg Prod.fst (so_inj hf)) (congrArg Prod.snd (so_inj hf)) dX7_reading_59
  unfold fX7_reading at hf
  refine wa_aload_n hC dX7_reading_0 rfl 0 rfl ?_
  refine wa_iload_n hC dX7_reading_1 rfl 1 rfl ?_
  refine wa_iload_n hC dX7_reading_2 rfl 2 rfl ?_
  obtain ⟨v9, h9, hf⟩ := bd hf
  refine wa_calli (rest := []) (wr_V hC (kX7_isReading l G h9) (cwV 2 hC.1.2.2.2.2 gX7_reading_X7_isReading rfl rfl rfl (by decide +kernel) ⟨Nat.le_of_ble_eq_true rfl, Nat.le_of_ble_eq_true rfl⟩) (show kd 96 = 7 from rfl) (by decide) (ce7 (show kd 96 = 7 from rfl)) rfl rfl rfl rfl (Nat.le_of_ble_eq_true rfl) dX7_reading_3) ?_
  refine wa_if_eq hC 18 dX7_reading_6 (by decide) (fun c10 => ?_) (fun c10 => ?_)
  · have hf := ite_t hf c10
    refine wa_ldc hC mbX7_reading_55 dX7_reading_18 ?_
    exact wa_iret hC hlk hr (congrArg Prod.fst (so_inj hf)) (congrArg Prod.snd (so_inj hf)) dX7_reading_20
  · have hf := ite_f hf c10
    refine wa_iload_n hC dX7_reading_9 rfl 3 rfl ?_
    refine wa_iconst (v := 0) hC dX7_reading_10 (by decide) ?_
    refine wa_iconst (v := 5) hC dX7_reading_11 (by decide) ?_
    obtain ⟨v11, h11, hf⟩ := bd hf
    refine wa_calli (rest := []) (wr_S hC (kX7_in l G h11) (va_cwS 3 hC.1.2.2.2.2 gX7_reading_X7_in rfl rfl rfl (by decide +kernel) ⟨Nat.le_of_ble_eq_true rfl, Nat.le_of_ble_eq_true rfl⟩) rfl rfl (Nat.le_of_ble_eq_true rfl) dX7_reading_12) ?_
    refine wa_if_ne hC 21 dX7_reading_15 (by decide) (fun c12 => ?_) (fun c12 => ?_)
    · have hf := ite_f hf c12
      refine wa_iload_n hC dX7_reading_21 rfl 1 rfl ?_
      refine wa_iconst (v := 1) hC dX7_reading_22 (by decide) ?_
      refine wa_iadd hC dX7_reading_23 ?_
      refine wa_istore (lv' := [(4, .int _), (0, .ref _), (1, .int _), (2, .int _), (3, .int _)]) hC dX7_reading_24 (by decide) rfl ?_
      refine wa_iload hC dX7_reading_26 0 rfl ?_
      refine wa_if_ne hC 39 dX7_reading_28 (by decide) (fun c13 => ?_) (fun c13 => ?_)
      · have hf := ite_f hf c13
        exact wa_sub [1, 3, 4, 0] rfl (hJ39  _ _ hf)
      · have hf := ite_t hf c13
        refine wa_iload_n hC dX7_reading_31 rfl 4 rfl ?_
        refine wa_iconst (v := 2) hC dX7_reading_32 (by decide) ?_
        refine wa_icmp_le hC 39 dX7_reading_33 (by decide) (fun c14 => ?_) (fun c14 => ?_)
        · have hf := ite_t hf c14
          exact wa_sub [1, 3, 4, 0] rfl (hJ39  _ _ hf)
        · have hf := ite_f hf c14
          refine wa_ldc hC mbX7_reading_92 dX7_reading_36 ?_
          exact wa_iret hC hlk hr (congrArg Prod.fst (so_inj hf)) (congrArg Prod.snd (so_inj hf)) dX7_reading_38
    · have hf := ite_t hf c12
      refine wa_ldc hC mbX7_reading_55 dX7_reading_18 ?_
      exact wa_iret hC hlk hr (congrArg Prod.fst (so_inj hf)) (congrArg Prod.snd (so_inj hf)) dX7_reading_20
abbrev rmX7_stepsTo : Room := { frames := 1, cells := 0, slots := 0, locals := 23 }
theorem fiX7_stepsTo_7 : ∀ w ∈ u_ws RX7 TX7 21, w ∈ wsX7_stepsTo := by decide +kernel
theorem mbX7_stepsTo_7 : Cond.fieldLink RX7 7 "BaroRunsModel" "d" "[I" ∈ wsX7_stepsTo := by decide +kernel
set_option maxHeartbeats 4000000 in
set_option maxRecDepth 100000 in
theorem kX7_stepsTo (l : Launch) (G : wG) {x1 : Int32} {M0 : wM} {r : Int32} (hf : fX7_stepsTo x1 M0 = some r) : mI l yX7_stepsTo wsX7_stepsTo rmX7_stepsTo G [.ref (ga G (96)), .int (x1)] M0 r M0 := by
  refine mI.of (cc := cX7_stepsTo) (nL := 5) (ret := (some .int)) (own := RX7) (lv := [(0, .ref (ga G (96))), (1, .int (x1))]) (plainFor_of_name (by decide +kernel)) rfl rfl (Nat.le_of_ble_eq_true rfl) rfl ?_
  intro p e s m args below meth c hC hr hlk
  have hJ58 : ∀ (bk4 : Int32 → Int32 → Option Int32) (hbk4 : (∀ (x2 : Int32) (x3 : Int32), bk4 x2 x3 = some r → wAt p l e rmX7_stepsTo s m args below meth c (qI below args s G r M0) 5 G M0 4 [(0, .ref (ga G (96))), (2, .int (x2)), (3, .int (x3))] [])) (x2 : Int32) (x3 : Int32), fX7_stepsTo_J58 x1 M0 bk4 x2 x3 = some r → wAt p l e rmX7_stepsTo s m args below meth c (qI below args s G r M0) 5 G M0 58 [(0, .ref (ga G (96))), (2, .int (x2)), (3, .int (x3))] [] := by
    intro bk4 hbk4 x2 x3 hf
    unfold fX7_stepsTo_J58 at hf
    refine wa_iload_n hC dX7_stepsTo_58 rfl 1 rfl ?_
    refine wa_if_ne hC 64 dX7_stepsTo_59 (by decide) (fun c1 => ?_) (fun c1 => ?_)
    · have hf := ite_f hf c1
      refine wa_iinc (v := _ + -1) (lv' := [(2, .int _), (0, .ref _), (3, .int _)]) hC dX7_stepsTo_64 (t := 1) rfl rfl (by decide) rfl ?_
      refine wa_iinc (v := _ + 1) (lv' := [(3, .int _), (2, .int _), (0, .ref _)]) hC dX7_stepsTo_67 (t := 2) rfl rfl (by decide) rfl ?_
      refine wa_goto hC 4 dX7_stepsTo_70 (by decide) ?_
      exact wa_sub [2, 1, 0] rfl (hbk4 _ _ hf)
    · have hf := ite_t hf c1
      refine wa_iload_n hC dX7_stepsTo_62 rfl 2 rfl ?_
      exact wa_iret hC hlk hr (so_inj hf) rfl dX7_stepsTo_63
  have hB4 : ∀ (bk4 : Int32 → Int32 → Option Int32) (hbk4 : (∀ (x2 : Int32) (x3 : Int32), bk4 x2 x3 = some r → wAt p l e rmX7_stepsTo s m args below meth c (qI below args s G r M0) 5 G M0 4 [(0, .ref (ga G (96))), (2, .int (x2)), (3, .int (x3))] [])) (x2 : Int32) (x3 : Int32), fX7_stepsTo_B4 x1 M0 bk4 x2 x3 = some r → wAt p l e rmX7_stepsTo s m args below meth c (qI below args s G r M0) 5 G M0 4 [(0, .ref (ga G (96))), (2, .int (x2)), (3, .int (x3))] [] := by
    intro bk4 hbk4 x2 x3 hf
    unfold fX7_stepsTo_B4 at hf
    refine wa_iload_n hC dX7_stepsTo_4 rfl 2 rfl ?_
    refine wa_aload_n hC dX7_stepsTo_5 rfl 0 rfl ?_
    refine rg7_0 hC fiX7_stepsTo_7 mbX7_stepsTo_7 dX7_stepsTo_6 ?_
    refine wa_iconst (v := 3) hC dX7_stepsTo_9 (by decide) ?_
    obtain ⟨k2, h2, hf⟩ := bd hf
    obtain ⟨hv2, rfl⟩ := ix_some h2
    refine wa_iald hC (show kd 97 = 20 from rfl) hv2 dX7_stepsTo_10 ?_
    refine wa_icmp_ge hC 73 dX7_stepsTo_11 (by decide) (fun c3 => ?_) (fun c3 => ?_)
    · have hf := ite_t hf c3
      refine wa_iconst (v := -1) hC dX7_stepsTo_73 (by decide) ?_
      exact wa_iret hC hlk hr (so_inj hf) rfl dX7_stepsTo_74
    · have hf := ite_f hf c3
      refine wa_aload_n hC dX7_stepsTo_14 rfl 0 rfl ?_
      refine wa_iconst (v := 0) hC dX7_stepsTo_15 (by decide) ?_
      refine wa_bipush (v := 40) hC dX7_stepsTo_16 (by decide) ?_
      refine wa_iload_n hC dX7_stepsTo_18 rfl 2 rfl ?_
      obtain ⟨v4, h4, hf⟩ := bd hf
      refine wa_calli (rest := []) (wr_V hC (kX7_of l G h4) (cwV 3 hC.1.2.2.2.2 gX7_stepsTo_X7_of rfl rfl rfl (by decide +kernel) ⟨Nat.le_of_ble_eq_true rfl, Nat.le_of_ble_eq_true rfl⟩) (show kd 96 = 7 from rfl) (by decide) (ce7 (show kd 96 = 7 from rfl)) rfl rfl rfl rfl (Nat.le_of_ble_eq_true rfl) dX7_stepsTo_19) ?_
      refine wa_aload_n hC dX7_stepsTo_22 rfl 0 rfl ?_
      refine wa_iconst (v := 0) hC dX7_stepsTo_23 (by decide) ?_
      refine wa_bipush (v := 40) hC dX7_stepsTo_24 (by decide) ?_
      refine wa_iload_n hC dX7_stepsTo_26 rfl 2 rfl ?_
      refine wa_iconst (v := 1) hC dX7_stepsTo_27 (by decide) ?_
      refine wa_isub hC dX7_stepsTo_28 ?_
      obtain ⟨v5, h5, hf⟩ := bd hf
      refine wa_calli (rest := [_]) (wr_V hC (kX7_of l G h5) (cwV 3 hC.1.2.2.2.2 gX7_stepsTo_X7_of rfl rfl rfl (by decide +kernel) ⟨Nat.le_of_ble_eq_true rfl, Nat.le_of_ble_eq_true rfl⟩) (show kd 96 = 7 from rfl) (by decide) (ce7 (show kd 96 = 7 from rfl)) rfl rfl rfl rfl (Nat.le_of_ble_eq_true rfl) dX7_stepsTo_29) ?_
      refine wa_isub hC dX7_stepsTo_32 ?_
      refine wa_istore (lv' := [(4, .int _), (0, .ref _), (2, .int _), (3, .int _)]) hC dX7_stepsTo_33 (by decide) rfl ?_
      refine wa_iload hC dX7_stepsTo_35 0 rfl ?_
      refine wa_aload_n hC dX7_stepsTo_37 rfl 1 rfl ?_
      refine rg7_0 hC fiX7_stepsTo_7 mbX7_stepsTo_7 dX7_stepsTo_38 ?_
      refine wa_iconst (v := 2) hC dX7_stepsTo_41 (by decide) ?_
      obtain ⟨k6, h6, hf⟩ := bd hf
      obtain ⟨hv6, rfl⟩ := ix_some h6
      refine wa_iald hC (show kd 97 = 20 from rfl) hv6 dX7_stepsTo_42 ?_
      refine wa_icmp_ge hC 58 dX7_stepsTo_43 (by decide) (fun c7 => ?_) (fun c7 => ?_)
      · have hf := ite_t hf c7
        exact wa_sub [1, 2, 3] rfl (hJ58 bk4 hbk4 _ _ hf)
      · have hf := ite_f hf c7
        refine wa_iload hC dX7_stepsTo_46 0 rfl ?_
        refine wa_aload_n hC dX7_stepsTo_48 rfl 1 rfl ?_
        refine rg7_0 hC fiX7_stepsTo_7 mbX7_stepsTo_7 dX7_stepsTo_49 ?_
        refine wa_iconst (v := 2) hC dX7_stepsTo_52 (by decide) ?_
        obtain ⟨k8, h8, hf⟩ := bd hf
        obtain ⟨hv8, rfl⟩ := ix_some h8
        refine wa_iald hC (show kd 97 = 20 from rfl) hv8 dX7_stepsTo_53 ?_
        refine wa_ineg hC dX7_stepsTo_54 ?_
        refine wa_icmp_gt hC 67 dX7_stepsTo_55 (by decide) (fun c9 => ?_) (fun c9 => ?_)
        · have hf := ite_t hf c9
          refine wa_iinc (v := _ + 1) (lv' := [(3, .int _), (4, .int _), (0, .ref _), (2, .int _)]) hC dX7_stepsTo_67 (t := 3) rfl rfl (by decide) rfl ?_
          refine wa_goto hC 4 dX7_stepsTo_70 (by decide) ?_
          exact wa_sub [2, 3, 0] rfl (hbk4 _ _ hf)
        · have hf := ite_f hf c9
          exact wa_sub [1, 2, 3] rfl (hJ58 bk4 hbk4 _ _ hf)
  have hL4 : ∀ (n : Nat) (x2 : Int32) (x3 : Int32), fX7_stepsTo_L4 x1 M0  n x2 x3 = some r → wAt p l e rmX7_stepsTo s m args below meth c (qI below args s G r M0) 5 G M0 4 [(0, .ref (ga G (96))), (2, .int (x2)), (3, .int (x3))] [] := by
    intro  n
    induction n with
    | zero =>
      intro x2 x3 hf
      exact absurd hf (by simp [fX7_stepsTo_L4])
    | succ n ih =>
      intro x2 x3 hf
      exact hB4  (fX7_stepsTo_L4 x1 M0  n) ih x2 x3 hf
  unfold fX7_stepsTo at hf
  refine wa_iload_n hC dX7_stepsTo_0 rfl 1 rfl ?_
  refine wa_istore_n (lv' := [(2, .int _), (0, .ref _), (1, .int _)]) hC dX7_stepsTo_1 rfl (by decide) rfl ?_
  refine wa_iconst (v := 1) hC dX7_stepsTo_2 (by decide) ?_
  refine wa_istore_n (lv' := [(3, .int _), (2, .int _), (0, .ref _), (1, .int _)]) hC dX7_stepsTo_3 rfl (by decide) rfl ?_
  exact wa_sub [2, 1, 0] rfl (hL4 FU _ _ hf)
abbrev rmX7_steps : Room := { frames := 2, cells := 0, slots := 0, locals := 47 }
set_option maxHeartbeats 4000000 in
set_option maxRecDepth 100000 in
theorem kX7_steps (l : Launch) (G : wG)  {M0 : wM} {r : Int32} (hf : fX7_steps  M0 = some r) : mI l yX7_steps wsX7_steps rmX7_steps G [.ref (ga G (96))] M0 r M0 := by
  refine mI.of (cc := cX7_steps) (nL := 2) (ret := (some .int)) (own := RX7) (lv := [(0, .ref (ga G (96)))]) (plainFor_of_name (by decide +kernel)) rfl rfl (Nat.le_of_ble_eq_true rfl) rfl ?_
  intro p e s m args below meth c hC hr hlk
  have hB2 : ∀ (bk2 : Int32 → Option Int32) (hbk2 : (∀ (x1 : Int32), bk2 x1 = some r → wAt p l e rmX7_steps s m args below meth c (qI below args s G r M0) 2 G M0 2 [(0, .ref (ga G (96))), (1, .int (x1))] [])) (x1 : Int32), fX7_steps_B2  M0 bk2 x1 = some r → wAt p l e rmX7_steps s m args below meth c (qI below args s G r M0) 2 G M0 2 [(0, .ref (ga G (96))), (1, .int (x1))] [] := by
    intro bk2 hbk2 x1 hf
    unfold fX7_steps_B2 at hf
    refine wa_aload_n hC dX7_steps_2 rfl 0 rfl ?_
    refine wa_iload_n hC dX7_steps_3 rfl 1 rfl ?_
    obtain ⟨v1, h1, hf⟩ := bd hf
    refine wa_calli (rest := []) (wr_V hC (kX7_stepsTo l G h1) (cwV 1 hC.1.2.2.2.2 gX7_steps_X7_stepsTo rfl rfl rfl (by decide +kernel) ⟨Nat.le_of_ble_eq_true rfl, Nat.le_of_ble_eq_true rfl⟩) (show kd 96 = 7 from rfl) (by decide) (ce7 (show kd 96 = 7 from rfl)) rfl rfl rfl rfl (Nat.le_of_ble_eq_true rfl) dX7_steps_4) ?_
    refine wa_iconst (v := -1) hC dX7_steps_7 (by decide) ?_
    refine wa_icmp_eq hC 17 dX7_steps_8 (by decide) (fun c2 => ?_) (fun c2 => ?_)
    · have hf := ite_t hf c2
      refine wa_iload_n hC dX7_steps_17 rfl 1 rfl ?_
      exact wa_iret hC hlk hr (so_inj hf) rfl dX7_steps_18
    · have hf := ite_f hf c2
      refine wa_iinc (v := _ + 1) (lv' := [(1, .int _), (0, .ref _)]) hC dX7_steps_11 (t := 1) rfl rfl (by decide) rfl ?_
      refine wa_goto hC 2 dX7_steps_14 (by decide) ?_
      exact wa_sub [1, 0] rfl (hbk2 _ hf)
  have hL2 : ∀ (n : Nat) (x1 : Int32), fX7_steps_L2  M0  n x1 = some r → wAt p l e rmX7_steps s m args below meth c (qI below args s G r M0) 2 G M0 2 [(0, .ref (ga G (96))), (1, .int (x1))] [] := by
    intro  n
    induction n with
    | zero =>
      intro x1 hf
      exact absurd hf (by simp [fX7_steps_L2])
    | succ n ih =>
      intro x1 hf
      exact hB2  (fX7_steps_L2  M0  n) ih x1 hf
  unfold fX7_steps at hf
  refine wa_iconst (v := 0) hC dX7_steps_0 (by decide) ?_
  refine wa_istore_n (lv' := [(1, .int _), (0, .ref _)]) hC dX7_steps_1 rfl (by decide) rfl ?_
  exact wa_sub [1, 0] rfl (hL2 FU _ hf)
abbrev rmX7_inAll : Room := { frames := 4, cells := 0, slots := 0, locals := 96 }
theorem fiX7_inAll_7 : ∀ w ∈ u_ws RX7 TX7 21, w ∈ wsX7_inAll := by decide +kernel
theorem mbX7_inAll_29 : Cond.fieldLink RX7 29 "BaroRunsModel" "isGood" "[Z" ∈ wsX7_inAll := by decide +kernel
theorem mbX7_inAll_7 : Cond.fieldLink RX7 7 "BaroRunsModel" "d" "[I" ∈ wsX7_inAll := by decide +kernel
theorem mbX7_inAll_104 : Cond.fieldLink RX7 104 "BaroRunsModel" "loops" "I" ∈ wsX7_inAll := by decide +kernel
set_option maxHeartbeats 4000000 in
set_option maxRecDepth 100000 in
theorem kX7_inAll (l : Launch) (G : wG) {x1 : Int32} {M0 M1 : wM} {r : Int32} (hf : fX7_inAll x1 M0 = some (r, M1)) : mI l yX7_inAll wsX7_inAll rmX7_inAll G [.ref (ga G (96)), .int (x1)] M0 r M1 := by
  refine mI.of (cc := cX7_inAll) (nL := 5) (ret := (some .int)) (own := RX7) (lv := [(0, .ref (ga G (96))), (1, .int (x1))]) (plainFor_of_name (by decide +kernel)) rfl rfl (Nat.le_of_ble_eq_true rfl) rfl ?_
  intro p e s m args below meth c hC hr hlk
  have hJ61 : ∀ (bk4 : Int32 → Int32 → wM → Option (Int32 × wM)) (hbk4 : (∀ (x2 : Int32) (x3 : Int32) (M0 : wM), bk4 x2 x3 M0 = some (r, M1) → wAt p l e rmX7_inAll s m args below meth c (qI below args s G r M1) 5 G M0 4 [(0, .ref (ga G (96))), (1, .int (x1)), (2, .int (x2)), (3, .int (x3))] [])) (bk33 : Int32 → Int32 → Int32 → wM → Option (Int32 × wM)) (hbk33 : (∀ (x2 : Int32) (x3 : Int32) (x4 : Int32) (M0 : wM), bk33 x2 x3 x4 M0 = some (r, M1) → wAt p l e rmX7_inAll s m args below meth c (qI below args s G r M1) 5 G M0 33 [(0, .ref (ga G (96))), (1, .int (x1)), (2, .int (x2)), (3, .int (x3)), (4, .int (x4))] [])) (x3 : Int32) (x4 : Int32) (s0 : Int32) (M0 : wM), fX7_inAll_J61 x1 bk4 bk33 x3 x4 s0 M0 = some (r, M1) → wAt p l e rmX7_inAll s m args below meth c (qI below args s G r M1) 5 G M0 61 [(0, .ref (ga G (96))), (1, .int (x1)), (3, .int (x3)), (4, .int (x4))] [.int (s0)] := by
    intro bk4 hbk4 bk33 hbk33 x3 x4 s0 M0 hf
    unfold fX7_inAll_J61 at hf
    refine wa_iload_n hC dX7_inAll_61 rfl 1 rfl ?_
    refine wa_iconst (v := 2) hC dX7_inAll_62 (by decide) ?_
    refine wa_icmp_ne hC 80 dX7_inAll_63 (by decide) (fun c1 => ?_) (fun c1 => ?_)
    · have hf := ite_f hf c1
      refine wa_iconst (v := 0) hC dX7_inAll_80 (by decide) ?_
      refine wa_iadd hC dX7_inAll_81 ?_
      refine wa_istore_n (lv' := [(2, .int _), (0, .ref _), (1, .int _), (3, .int _), (4, .int _)]) hC dX7_inAll_82 rfl (by decide) rfl ?_
      refine wa_iinc (v := _ + 1) (lv' := [(4, .int _), (2, .int _), (0, .ref _), (1, .int _), (3, .int _)]) hC dX7_inAll_83 (t := 4) rfl rfl (by decide) rfl ?_
      refine wa_goto hC 33 dX7_inAll_86 (by decide) ?_
      exact wa_sub [2, 3, 1, 4, 0] rfl (hbk33 _ _ _ _ hf)
    · have hf := ite_t hf c1
      refine wa_aload_n hC dX7_inAll_66 rfl 0 rfl ?_
      refine rg7_11 hC fiX7_inAll_7 mbX7_inAll_29 dX7_inAll_67 ?_
      refine wa_iload hC dX7_inAll_70 3 rfl ?_
      obtain ⟨k2, h2, hf⟩ := bd hf
      obtain ⟨hv2, rfl⟩ := ix_some h2
      refine wa_zald hC (show kd 103 = 22 from rfl) hv2 dX7_inAll_72 ?_
      refine wa_if_eq hC 80 dX7_inAll_73 (by decide) (fun c3 => ?_) (fun c3 => ?_)
      · have hf := ite_t hf c3
        refine wa_iconst (v := 0) hC dX7_inAll_80 (by decide) ?_
        refine wa_iadd hC dX7_inAll_81 ?_
        refine wa_istore_n (lv' := [(2, .int _), (0, .ref _), (1, .int _), (3, .int _), (4, .int _)]) hC dX7_inAll_82 rfl (by decide) rfl ?_
        refine wa_iinc (v := _ + 1) (lv' := [(4, .int _), (2, .int _), (0, .ref _), (1, .int _), (3, .int _)]) hC dX7_inAll_83 (t := 4) rfl rfl (by decide) rfl ?_
        refine wa_goto hC 33 dX7_inAll_86 (by decide) ?_
        exact wa_sub [2, 3, 1, 4, 0] rfl (hbk33 _ _ _ _ hf)
      · have hf := ite_f hf c3
        refine wa_iconst (v := 1) hC dX7_inAll_76 (by decide) ?_
        refine wa_goto hC 81 dX7_inAll_77 (by decide) ?_
        refine wa_iadd hC dX7_inAll_81 ?_
        refine wa_istore_n (lv' := [(2, .int _), (0, .ref _), (1, .int _), (3, .int _), (4, .int _)]) hC dX7_inAll_82 rfl (by decide) rfl ?_
        refine wa_iinc (v := _ + 1) (lv' := [(4, .int _), (2, .int _), (0, .ref _), (1, .int _), (3, .int _)]) hC dX7_inAll_83 (t := 4) rfl rfl (by decide) rfl ?_
        refine wa_goto hC 33 dX7_inAll_86 (by decide) ?_
        exact wa_sub [2, 3, 1, 4, 0] rfl (hbk33 _ _ _ _ hf)
  have hB33 : ∀ (bk4 : Int32 → Int32 → wM → Option (Int32 × wM)) (hbk4 : (∀ (x2 : Int32) (x3 : Int32) (M0 : wM), bk4 x2 x3 M0 = some (r, M1) → wAt p l e rmX7_inAll s m args below meth c (qI below args s G r M1) 5 G M0 4 [(0, .ref (ga G (96))), (1, .int (x1)), (2, .int (x2)), (3, .int (x3))] [])) (bk33 : Int32 → Int32 → Int32 → wM → Option (Int32 × wM)) (hbk33 : (∀ (x2 : Int32) (x3 : Int32) (x4 : Int32) (M0 : wM), bk33 x2 x3 x4 M0 = some (r, M1) → wAt p l e rmX7_inAll s m args below meth c (qI below args s G r M1) 5 G M0 33 [(0, .ref (ga G (96))), (1, .int (x1)), (2, .int (x2)), (3, .int (x3)), (4, .int (x4))] [])) (x2 : Int32) (x3 : Int32) (x4 : Int32) (M0 : wM), fX7_inAll_B33 x1 bk4 bk33 x2 x3 x4 M0 = some (r, M1) → wAt p l e rmX7_inAll s m args below meth c (qI below args s G r M1) 5 G M0 33 [(0, .ref (ga G (96))), (1, .int (x1)), (2, .int (x2)), (3, .int (x3)), (4, .int (x4))] [] := by
    intro bk4 hbk4 bk33 hbk33 x2 x3 x4 M0 hf
    unfold fX7_inAll_B33 at hf
    refine wa_iload hC dX7_inAll_33 4 rfl ?_
    refine wa_aload_n hC dX7_inAll_35 rfl 0 rfl ?_
    refine rg7_0 hC fiX7_inAll_7 mbX7_inAll_7 dX7_inAll_36 ?_
    refine wa_iconst (v := 3) hC dX7_inAll_39 (by decide) ?_
    refine wa_iload_n hC dX7_inAll_40 rfl 3 rfl ?_
    refine wa_iadd hC dX7_inAll_41 ?_
    obtain ⟨k4, h4, hf⟩ := bd hf
    obtain ⟨hv4, rfl⟩ := ix_some h4
    refine wa_iald hC (show kd 97 = 20 from rfl) hv4 dX7_inAll_42 ?_
    refine wa_icmp_ge hC 89 dX7_inAll_43 (by decide) (fun c5 => ?_) (fun c5 => ?_)
    · have hf := ite_t hf c5
      refine wa_iinc (v := _ + 1) (lv' := [(3, .int _), (0, .ref _), (1, .int _), (2, .int _), (4, .int _)]) hC dX7_inAll_89 (t := 3) rfl rfl (by decide) rfl ?_
      refine wa_goto hC 4 dX7_inAll_92 (by decide) ?_
      exact wa_sub [1, 2, 3, 0] rfl (hbk4 _ _ _ hf)
    · have hf := ite_f hf c5
      refine wa_iload_n hC dX7_inAll_46 rfl 2 rfl ?_
      refine wa_iload_n hC dX7_inAll_47 rfl 1 rfl ?_
      refine wa_if_ne hC 61 dX7_inAll_48 (by decide) (fun c6 => ?_) (fun c6 => ?_)
      · have hf := ite_f hf c6
        exact wa_sub [0, 1, 3, 4] rfl (hJ61 bk4 hbk4 bk33 hbk33 _ _ _ _ hf)
      · have hf := ite_t hf c6
        refine wa_aload_n hC dX7_inAll_51 rfl 0 rfl ?_
        refine wa_iload_n hC dX7_inAll_52 rfl 3 rfl ?_
        refine wa_iload hC dX7_inAll_53 4 rfl ?_
        obtain ⟨v7, h7, hf⟩ := bd hf
        refine wa_calli (rest := [_]) (wr_V hC (kX7_isGust l G h7) (cwV 2 hC.1.2.2.2.2 gX7_inAll_X7_isGust rfl rfl rfl (by decide +kernel) ⟨Nat.le_of_ble_eq_true rfl, Nat.le_of_ble_eq_true rfl⟩) (show kd 96 = 7 from rfl) (by decide) (ce7 (show kd 96 = 7 from rfl)) rfl rfl rfl rfl (Nat.le_of_ble_eq_true rfl) dX7_inAll_55) ?_
        refine wa_if_ne hC 76 dX7_inAll_58 (by decide) (fun c8 => ?_) (fun c8 => ?_)
        · have hf := ite_f hf c8
          refine wa_iconst (v := 1) hC dX7_inAll_76 (by decide) ?_
          refine wa_goto hC 81 dX7_inAll_77 (by decide) ?_
          refine wa_iadd hC dX7_inAll_81 ?_
          refine wa_istore_n (lv' := [(2, .int _), (0, .ref _), (1, .int _), (3, .int _), (4, .int _)]) hC dX7_inAll_82 rfl (by decide) rfl ?_
          refine wa_iinc (v := _ + 1) (lv' := [(4, .int _), (2, .int _), (0, .ref _), (1, .int _), (3, .int _)]) hC dX7_inAll_83 (t := 4) rfl rfl (by decide) rfl ?_
          refine wa_goto hC 33 dX7_inAll_86 (by decide) ?_
          exact wa_sub [2, 3, 1, 4, 0] rfl (hbk33 _ _ _ _ hf)
        · have hf := ite_t hf c8
          exact wa_sub [0, 1, 3, 4] rfl (hJ61 bk4 hbk4 bk33 hbk33 _ _ _ _ hf)
  have hL33 : ∀ (bk4 : Int32 → Int32 → wM → Option (Int32 × wM)) (hbk4 : (∀ (x2 : Int32) (x3 : Int32) (M0 : wM), bk4 x2 x3 M0 = some (r, M1) → wAt p l e rmX7_inAll s m args below meth c (qI below args s G r M1) 5 G M0 4 [(0, .ref (ga G (96))), (1, .int (x1)), (2, .int (x2)), (3, .int (x3))] [])) (n : Nat) (x2 : Int32) (x3 : Int32) (x4 : Int32) (M0 : wM), fX7_inAll_L33 x1 bk4 n x2 x3 x4 M0 = some (r, M1) → wAt p l e rmX7_inAll s m args below meth c (qI below args s G r M1) 5 G M0 33 [(0, .ref (ga G (96))), (1, .int (x1)), (2, .int (x2)), (3, .int (x3)), (4, .int (x4))] [] := by
    intro bk4 hbk4 n
    induction n with
    | zero =>
      intro x2 x3 x4 M0 hf
      exact absurd hf (by simp [fX7_inAll_L33])
    | succ n ih =>
      intro x2 x3 x4 M0 hf
      exact hB33 bk4 hbk4 (fX7_inAll_L33 x1 bk4 n) ih x2 x3 x4 M0 hf
  have hB4 : ∀ (bk4 : Int32 → Int32 → wM → Option (Int32 × wM)) (hbk4 : (∀ (x2 : Int32) (x3 : Int32) (M0 : wM), bk4 x2 x3 M0 = some (r, M1) → wAt p l e rmX7_inAll s m args below meth c (qI below args s G r M1) 5 G M0 4 [(0, .ref (ga G (96))), (1, .int (x1)), (2, .int (x2)), (3, .int (x3))] [])) (x2 : Int32) (x3 : Int32) (M0 : wM), fX7_inAll_B4 x1 bk4 x2 x3 M0 = some (r, M1) → wAt p l e rmX7_inAll s m args below meth c (qI below args s G r M1) 5 G M0 4 [(0, .ref (ga G (96))), (1, .int (x1)), (2, .int (x2)), (3, .int (x3))] [] := by
    intro bk4 hbk4 x2 x3 M0 hf
    unfold fX7_inAll_B4 at hf
    refine wa_iload_n hC dX7_inAll_4 rfl 3 rfl ?_
    refine wa_iconst (v := 4) hC dX7_inAll_5 (by decide) ?_
    refine wa_icmp_ge hC 95 dX7_inAll_6 (by decide) (fun c9 => ?_) (fun c9 => ?_)
    · have hf := ite_t hf c9
      refine wa_iload_n hC dX7_inAll_95 rfl 2 rfl ?_
      exact wa_iret hC hlk hr (congrArg Prod.fst (so_inj hf)) (congrArg Prod.snd (so_inj hf)) dX7_inAll_96
    · have hf := ite_f hf c9
      refine wa_aload_n hC dX7_inAll_9 rfl 0 rfl ?_
      refine wa_iload_n hC dX7_inAll_10 rfl 3 rfl ?_
      obtain ⟨M10, h10, hf⟩ := bd hf
      refine wa_callv (rest := []) (wr_V hC (kX7_looks l G h10) (cwV 1 hC.1.2.2.2.2 gX7_inAll_X7_looks rfl rfl rfl (by decide +kernel) ⟨Nat.le_of_ble_eq_true rfl, Nat.le_of_ble_eq_true rfl⟩) (show kd 96 = 7 from rfl) (by decide) (ce7 (show kd 96 = 7 from rfl)) rfl rfl rfl rfl (Nat.le_of_ble_eq_true rfl) dX7_inAll_11) ?_
      refine wa_iload_n hC dX7_inAll_14 rfl 2 rfl ?_
      refine wa_iload_n hC dX7_inAll_15 rfl 1 rfl ?_
      refine wa_iconst (v := 1) hC dX7_inAll_16 (by decide) ?_
      refine wa_icmp_ne hC 27 dX7_inAll_17 (by decide) (fun c11 => ?_) (fun c11 => ?_)
      · have hf := ite_f hf c11
        refine wa_iconst (v := 0) hC dX7_inAll_27 (by decide) ?_
        refine wa_iadd hC dX7_inAll_28 ?_
        refine wa_istore_n (lv' := [(2, .int _), (0, .ref _), (1, .int _), (3, .int _)]) hC dX7_inAll_29 rfl (by decide) rfl ?_
        refine wa_iconst (v := 0) hC dX7_inAll_30 (by decide) ?_
        refine wa_istore (lv' := [(4, .int _), (2, .int _), (0, .ref _), (1, .int _), (3, .int _)]) hC dX7_inAll_31 (by decide) rfl ?_
        exact wa_sub [2, 3, 1, 4, 0] rfl (hL33 bk4 hbk4 FU _ _ _ _ hf)
      · have hf := ite_t hf c11
        refine wa_aload_n hC dX7_inAll_20 rfl 0 rfl ?_
        refine rg7_14 hC fiX7_inAll_7 mbX7_inAll_104 dX7_inAll_21 ?_
        refine wa_goto hC 28 dX7_inAll_24 (by decide) ?_
        refine wa_iadd hC dX7_inAll_28 ?_
        refine wa_istore_n (lv' := [(2, .int _), (0, .ref _), (1, .int _), (3, .int _)]) hC dX7_inAll_29 rfl (by decide) rfl ?_
        refine wa_iconst (v := 0) hC dX7_inAll_30 (by decide) ?_
        refine wa_istore (lv' := [(4, .int _), (2, .int _), (0, .ref _), (1, .int _), (3, .int _)]) hC dX7_inAll_31 (by decide) rfl ?_
        exact wa_sub [2, 3, 1, 4, 0] rfl (hL33 bk4 hbk4 FU _ _ _ _ hf)
  have hL4 : ∀ (n : Nat) (x2 : Int32) (x3 : Int32) (M0 : wM), fX7_inAll_L4 x1  n x2 x3 M0 = some (r, M1) → wAt p l e rmX7_inAll s m args below meth c (qI below args s G r M1) 5 G M0 4 [(0, .ref (ga G (96))), (1, .int (x1)), (2, .int (x2)), (3, .int (x3))] [] := by
    intro  n
    induction n with
    | zero =>
      intro x2 x3 M0 hf
      exact absurd hf (by simp [fX7_inAll_L4])
    | succ n ih =>
      intro x2 x3 M0 hf
      exact hB4  (fX7_inAll_L4 x1  n) ih x2 x3 M0 hf
  unfold fX7_inAll at hf
  refine wa_iconst (v := 0) hC dX7_inAll_0 (by decide) ?_
  refine wa_istore_n (lv' := [(2, .int _), (0, .ref _), (1, .int _)]) hC dX7_inAll_1 rfl (by decide) rfl ?_
  refine wa_iconst (v := 1) hC dX7_inAll_2 (by decide) ?_
  refine wa_istore_n (lv' := [(3, .int _), (2, .int _), (0, .ref _), (1, .int _)]) hC dX7_inAll_3 rfl (by decide) rfl ?_
  exact wa_sub [2, 3, 1, 0] rfl (hL4 FU _ _ _ hf)
abbrev rmX7_timeOf : Room := { frames := 1, cells := 0, slots := 0, locals := 23 }
theorem fiX7_timeOf_7 : ∀ w ∈ u_ws RX7 TX7 21, w ∈ wsX7_timeOf := by decide +kernel
theorem mbX7_timeOf_36 : Cond.fieldLink RX7 36 "BaroRunsModel" "end" "[I" ∈ wsX7_timeOf := by decide +kernel
theorem mbX7_timeOf_33 : Cond.fieldLink RX7 33 "BaroRunsModel" "begin" "[I" ∈ wsX7_timeOf := by decide +kernel
set_option maxHeartbeats 4000000 in
set_option maxRecDepth 100000 in
theorem kX7_timeOf (l : Launch) (G : wG) {x1 : Int32} {x2 : Int32} {M0 : wM} {r : Int32} (hf : fX7_timeOf x1 x2 M0 = some r) : mI l yX7_timeOf wsX7_timeOf rmX7_timeOf G [.ref (ga G (96)), .int (x1), .int (x2)] M0 r M0 := by
  refine mI.of (cc := cX7_timeOf) (nL := 3) (ret := (some .int)) (own := RX7) (lv := [(0, .ref (ga G (96))), (1, .int (x1)), (2, .int (x2))]) (plainFor_of_name (by decide +kernel)) rfl rfl (Nat.le_of_ble_eq_true rfl) rfl ?_
  intro p e s m args below meth c hC hr hlk
  unfold fX7_timeOf at hf
  refine wa_aload_n hC dX7_timeOf_0 rfl 0 rfl ?_
  refine wa_iload_n hC dX7_timeOf_1 rfl 1 rfl ?_
  refine wa_iconst (v := 0) hC dX7_timeOf_2 (by decide) ?_
  refine wa_aload_n hC dX7_timeOf_3 rfl 0 rfl ?_
  refine rg7_13 hC fiX7_timeOf_7 mbX7_timeOf_36 dX7_timeOf_4 ?_
  refine wa_iload_n hC dX7_timeOf_7 rfl 2 rfl ?_
  obtain ⟨k1, h1, hf⟩ := bd hf
  obtain ⟨hv1, rfl⟩ := ix_some h1
  refine wa_iald hC (show kd 105 = 20 from rfl) hv1 dX7_timeOf_8 ?_
  obtain ⟨v2, h2, hf⟩ := bd hf
  refine wa_calli (rest := []) (wr_V hC (kX7_of l G h2) (cwV 3 hC.1.2.2.2.2 gX7_timeOf_X7_of rfl rfl rfl (by decide +kernel) ⟨Nat.le_of_ble_eq_true rfl, Nat.le_of_ble_eq_true rfl⟩) (show kd 96 = 7 from rfl) (by decide) (ce7 (show kd 96 = 7 from rfl)) rfl rfl rfl rfl (Nat.le_of_ble_eq_true rfl) dX7_timeOf_9) ?_
  refine wa_aload_n hC dX7_timeOf_12 rfl 0 rfl ?_
  refine wa_iload_n hC dX7_timeOf_13 rfl 1 rfl ?_
  refine wa_iconst (v := 0) hC dX7_timeOf_14 (by decide) ?_
  refine wa_aload_n hC dX7_timeOf_15 rfl 0 rfl ?_
  refine rg7_12 hC fiX7_timeOf_7 mbX7_timeOf_33 dX7_timeOf_16 ?_
  refine wa_iload_n hC dX7_timeOf_19 rfl 2 rfl ?_
  obtain ⟨k3, h3, hf⟩ := bd hf
  obtain ⟨hv3, rfl⟩ := ix_some h3
  refine wa_iald hC (show kd 104 = 20 from rfl) hv3 dX7_timeOf_20 ?_
  obtain ⟨v4, h4, hf⟩ := bd hf
  refine wa_calli (rest := [_]) (wr_V hC (kX7_of l G h4) (cwV 3 hC.1.2.2.2.2 gX7_timeOf_X7_of rfl rfl rfl (by decide +kernel) ⟨Nat.le_of_ble_eq_true rfl, Nat.le_of_ble_eq_true rfl⟩) (show kd 96 = 7 from rfl) (by decide) (ce7 (show kd 96 = 7 from rfl)) rfl rfl rfl rfl (Nat.le_of_ble_eq_true rfl) dX7_timeOf_21) ?_
  refine wa_isub hC dX7_timeOf_24 ?_
  exact wa_iret hC hlk hr (so_inj hf) rfl dX7_timeOf_25
abbrev rmX7_open : Room := { frames := 2, cells := 0, slots := 0, locals := 45 }
theorem fiX7_open_7 : ∀ w ∈ u_ws RX7 TX7 21, w ∈ wsX7_open := by decide +kernel
theorem mbX7_open_104 : Cond.fieldLink RX7 104 "BaroRunsModel" "loops" "I" ∈ wsX7_open := by decide +kernel
theorem mbX7_open_33 : Cond.fieldLink RX7 33 "BaroRunsModel" "begin" "[I" ∈ wsX7_open := by decide +kernel
theorem mbX7_open_36 : Cond.fieldLink RX7 36 "BaroRunsModel" "end" "[I" ∈ wsX7_open := by decide +kernel
set_option maxHeartbeats 4000000 in
set_option maxRecDepth 100000 in
theorem kX7_open (l : Launch) (G : wG) {x1 : Int32} {x2 : Int32} {M0 : wM} {r : Int32} (hf : fX7_open x1 x2 M0 = some r) : mI l yX7_open wsX7_open rmX7_open G [.ref (ga G (96)), .int (x1), .int (x2)] M0 r M0 := by
  refine mI.of (cc := cX7_open) (nL := 6) (ret := (some .int)) (own := RX7) (lv := [(0, .ref (ga G (96))), (1, .int (x1)), (2, .int (x2))]) (plainFor_of_name (by decide +kernel)) rfl rfl (Nat.le_of_ble_eq_true rfl) rfl ?_
  intro p e s m args below meth c hC hr hlk
  have hJ62 : ∀ (bk5 : Int32 → Int32 → Option Int32) (hbk5 : (∀ (x3 : Int32) (x4 : Int32), bk5 x3 x4 = some r → wAt p l e rmX7_open s m args below meth c (qI below args s G r M0) 6 G M0 5 [(0, .ref (ga G (96))), (1, .int (x1)), (2, .int (x2)), (3, .int (x3)), (4, .int (x4))] [])) (x3 : Int32) (x4 : Int32) (s0 : Int32), fX7_open_J62 x1 x2 M0 bk5 x3 x4 s0 = some r → wAt p l e rmX7_open s m args below meth c (qI below args s G r M0) 6 G M0 62 [(0, .ref (ga G (96))), (1, .int (x1)), (2, .int (x2)), (3, .int (x3)), (4, .int (x4))] [.int (s0)] := by
    intro bk5 hbk5 x3 x4 s0 hf
    unfold fX7_open_J62 at hf
    refine wa_istore (lv' := [(5, .int _), (0, .ref _), (1, .int _), (2, .int _), (3, .int _), (4, .int _)]) hC dX7_open_62 (by decide) rfl ?_
    refine wa_iload hC dX7_open_64 0 rfl ?_
    refine wa_if_eq hC 74 dX7_open_66 (by decide) (fun c1 => ?_) (fun c1 => ?_)
    · have hf := ite_t hf c1
      refine wa_iload_n hC dX7_open_74 rfl 4 rfl ?_
      refine wa_istore_n (lv' := [(3, .int _), (5, .int _), (0, .ref _), (1, .int _), (2, .int _), (4, .int _)]) hC dX7_open_75 rfl (by decide) rfl ?_
      refine wa_iinc (v := _ + 1) (lv' := [(4, .int _), (3, .int _), (5, .int _), (0, .ref _), (1, .int _), (2, .int _)]) hC dX7_open_76 (t := 5) rfl rfl (by decide) rfl ?_
      refine wa_goto hC 5 dX7_open_79 (by decide) ?_
      exact wa_sub [3, 4, 5, 1, 0] rfl (hbk5 _ _ hf)
    · have hf := ite_f hf c1
      refine wa_iload hC dX7_open_69 5 rfl ?_
      refine wa_goto hC 75 dX7_open_71 (by decide) ?_
      refine wa_istore_n (lv' := [(3, .int _), (5, .int _), (0, .ref _), (1, .int _), (2, .int _), (4, .int _)]) hC dX7_open_75 rfl (by decide) rfl ?_
      refine wa_iinc (v := _ + 1) (lv' := [(4, .int _), (3, .int _), (5, .int _), (0, .ref _), (1, .int _), (2, .int _)]) hC dX7_open_76 (t := 5) rfl rfl (by decide) rfl ?_
      refine wa_goto hC 5 dX7_open_79 (by decide) ?_
      exact wa_sub [3, 4, 5, 1, 0] rfl (hbk5 _ _ hf)
  have hB5 : ∀ (bk5 : Int32 → Int32 → Option Int32) (hbk5 : (∀ (x3 : Int32) (x4 : Int32), bk5 x3 x4 = some r → wAt p l e rmX7_open s m args below meth c (qI below args s G r M0) 6 G M0 5 [(0, .ref (ga G (96))), (1, .int (x1)), (2, .int (x2)), (3, .int (x3)), (4, .int (x4))] [])) (x3 : Int32) (x4 : Int32), fX7_open_B5 x1 x2 M0 bk5 x3 x4 = some r → wAt p l e rmX7_open s m args below meth c (qI below args s G r M0) 6 G M0 5 [(0, .ref (ga G (96))), (1, .int (x1)), (2, .int (x2)), (3, .int (x3)), (4, .int (x4))] [] := by
    intro bk5 hbk5 x3 x4 hf
    unfold fX7_open_B5 at hf
    refine wa_iload hC dX7_open_5 4 rfl ?_
    refine wa_aload_n hC dX7_open_7 rfl 0 rfl ?_
    refine rg7_14 hC fiX7_open_7 mbX7_open_104 dX7_open_8 ?_
    refine wa_icmp_ge hC 82 dX7_open_11 (by decide) (fun c2 => ?_) (fun c2 => ?_)
    · have hf := ite_t hf c2
      refine wa_iload_n hC dX7_open_82 rfl 3 rfl ?_
      exact wa_iret hC hlk hr (so_inj hf) rfl dX7_open_83
    · have hf := ite_f hf c2
      refine wa_aload_n hC dX7_open_14 rfl 0 rfl ?_
      refine rg7_12 hC fiX7_open_7 mbX7_open_33 dX7_open_15 ?_
      refine wa_iload hC dX7_open_18 4 rfl ?_
      obtain ⟨k3, h3, hf⟩ := bd hf
      obtain ⟨hv3, rfl⟩ := ix_some h3
      refine wa_iald hC (show kd 104 = 20 from rfl) hv3 dX7_open_20 ?_
      refine wa_iload_n hC dX7_open_21 rfl 2 rfl ?_
      refine wa_icmp_gt hC 61 dX7_open_22 (by decide) (fun c4 => ?_) (fun c4 => ?_)
      · have hf := ite_t hf c4
        refine wa_iconst (v := 0) hC dX7_open_61 (by decide) ?_
        exact wa_sub [0, 1, 2, 3, 4] rfl (hJ62 bk5 hbk5 _ _ _ hf)
      · have hf := ite_f hf c4
        refine wa_iload_n hC dX7_open_25 rfl 2 rfl ?_
        refine wa_aload_n hC dX7_open_26 rfl 0 rfl ?_
        refine rg7_13 hC fiX7_open_7 mbX7_open_36 dX7_open_27 ?_
        refine wa_iload hC dX7_open_30 4 rfl ?_
        obtain ⟨k5, h5, hf⟩ := bd hf
        obtain ⟨hv5, rfl⟩ := ix_some h5
        refine wa_iald hC (show kd 105 = 20 from rfl) hv5 dX7_open_32 ?_
        refine wa_icmp_gt hC 61 dX7_open_33 (by decide) (fun c6 => ?_) (fun c6 => ?_)
        · have hf := ite_t hf c6
          refine wa_iconst (v := 0) hC dX7_open_61 (by decide) ?_
          exact wa_sub [0, 1, 2, 3, 4] rfl (hJ62 bk5 hbk5 _ _ _ hf)
        · have hf := ite_f hf c6
          refine wa_iload_n hC dX7_open_36 rfl 3 rfl ?_
          refine wa_iconst (v := -1) hC dX7_open_37 (by decide) ?_
          refine wa_icmp_eq hC 57 dX7_open_38 (by decide) (fun c7 => ?_) (fun c7 => ?_)
          · have hf := ite_t hf c7
            refine wa_iconst (v := 1) hC dX7_open_57 (by decide) ?_
            refine wa_goto hC 62 dX7_open_58 (by decide) ?_
            exact wa_sub [0, 1, 2, 3, 4] rfl (hJ62 bk5 hbk5 _ _ _ hf)
          · have hf := ite_f hf c7
            refine wa_aload_n hC dX7_open_41 rfl 0 rfl ?_
            refine wa_iload_n hC dX7_open_42 rfl 1 rfl ?_
            refine wa_iload hC dX7_open_43 4 rfl ?_
            obtain ⟨v8, h8, hf⟩ := bd hf
            refine wa_calli (rest := []) (wr_V hC (kX7_timeOf l G h8) (cwV 2 hC.1.2.2.2.2 gX7_open_X7_timeOf rfl rfl rfl (by decide +kernel) ⟨Nat.le_of_ble_eq_true rfl, Nat.le_of_ble_eq_true rfl⟩) (show kd 96 = 7 from rfl) (by decide) (ce7 (show kd 96 = 7 from rfl)) rfl rfl rfl rfl (Nat.le_of_ble_eq_true rfl) dX7_open_45) ?_
            refine wa_aload_n hC dX7_open_48 rfl 0 rfl ?_
            refine wa_iload_n hC dX7_open_49 rfl 1 rfl ?_
            refine wa_iload_n hC dX7_open_50 rfl 3 rfl ?_
            obtain ⟨v9, h9, hf⟩ := bd hf
            refine wa_calli (rest := [_]) (wr_V hC (kX7_timeOf l G h9) (cwV 2 hC.1.2.2.2.2 gX7_open_X7_timeOf rfl rfl rfl (by decide +kernel) ⟨Nat.le_of_ble_eq_true rfl, Nat.le_of_ble_eq_true rfl⟩) (show kd 96 = 7 from rfl) (by decide) (ce7 (show kd 96 = 7 from rfl)) rfl rfl rfl rfl (Nat.le_of_ble_eq_true rfl) dX7_open_51) ?_
            refine wa_icmp_ge hC 61 dX7_open_54 (by decide) (fun c10 => ?_) (fun c10 => ?_)
            · have hf := ite_t hf c10
              refine wa_iconst (v := 0) hC dX7_open_61 (by decide) ?_
              exact wa_sub [0, 1, 2, 3, 4] rfl (hJ62 bk5 hbk5 _ _ _ hf)
            · have hf := ite_f hf c10
              refine wa_iconst (v := 1) hC dX7_open_57 (by decide) ?_
              refine wa_goto hC 62 dX7_open_58 (by decide) ?_
              exact wa_sub [0, 1, 2, 3, 4] rfl (hJ62 bk5 hbk5 _ _ _ hf)
  have hL5 : ∀ (n : Nat) (x3 : Int32) (x4 : Int32), fX7_open_L5 x1 x2 M0  n x3 x4 = some r → wAt p l e rmX7_open s m args below meth c (qI below args s G r M0) 6 G M0 5 [(0, .ref (ga G (96))), (1, .int (x1)), (2, .int (x2)), (3, .int (x3)), (4, .int (x4))] [] := by
    intro  n
    induction n with
    | zero =>
      intro x3 x4 hf
      exact absurd hf (by simp [fX7_open_L5])
    | succ n ih =>
      intro x3 x4 hf
      exact hB5  (fX7_open_L5 x1 x2 M0  n) ih x3 x4 hf
  unfold fX7_open at hf
  refine wa_iconst (v := -1) hC dX7_open_0 (by decide) ?_
  refine wa_istore_n (lv' := [(3, .int _), (0, .ref _), (1, .int _), (2, .int _)]) hC dX7_open_1 rfl (by decide) rfl ?_
  refine wa_iconst (v := 0) hC dX7_open_2 (by decide) ?_
  refine wa_istore (lv' := [(4, .int _), (3, .int _), (0, .ref _), (1, .int _), (2, .int _)]) hC dX7_open_3 (by decide) rfl ?_
  exact wa_sub [2, 3, 4, 1, 0] rfl (hL5 FU _ _ hf)
abbrev rmX7_correctedOf : Room := { frames := 3, cells := 0, slots := 0, locals := 70 }
theorem fiX7_correctedOf_7 : ∀ w ∈ u_ws RX7 TX7 21, w ∈ wsX7_correctedOf := by decide +kernel
theorem mbX7_correctedOf_26 : Cond.fieldLink RX7 26 "BaroRunsModel" "raws" "[I" ∈ wsX7_correctedOf := by decide +kernel
theorem mbX7_correctedOf_36 : Cond.fieldLink RX7 36 "BaroRunsModel" "end" "[I" ∈ wsX7_correctedOf := by decide +kernel
theorem mbX7_correctedOf_33 : Cond.fieldLink RX7 33 "BaroRunsModel" "begin" "[I" ∈ wsX7_correctedOf := by decide +kernel
set_option maxHeartbeats 4000000 in
set_option maxRecDepth 100000 in
theorem kX7_correctedOf (l : Launch) (G : wG) {x1 : Int32} {x2 : Int32} {M0 : wM} {r : Int32} (hf : fX7_correctedOf x1 x2 M0 = some r) : mI l yX7_correctedOf wsX7_correctedOf rmX7_correctedOf G [.ref (ga G (96)), .int (x1), .int (x2)] M0 r M0 := by
  refine mI.of (cc := cX7_correctedOf) (nL := 7) (ret := (some .int)) (own := RX7) (lv := [(0, .ref (ga G (96))), (1, .int (x1)), (2, .int (x2))]) (plainFor_of_name (by decide +kernel)) rfl rfl (Nat.le_of_ble_eq_true rfl) rfl ?_
  intro p e s m args below meth c hC hr hlk
  unfold fX7_correctedOf at hf
  refine wa_aload_n hC dX7_correctedOf_0 rfl 0 rfl ?_
  refine wa_iload_n hC dX7_correctedOf_1 rfl 1 rfl ?_
  refine wa_iload_n hC dX7_correctedOf_2 rfl 2 rfl ?_
  obtain ⟨v1, h1, hf⟩ := bd hf
  refine wa_calli (rest := []) (wr_V hC (kX7_open l G h1) (cwV 2 hC.1.2.2.2.2 gX7_correctedOf_X7_open rfl rfl rfl (by decide +kernel) ⟨Nat.le_of_ble_eq_true rfl, Nat.le_of_ble_eq_true rfl⟩) (show kd 96 = 7 from rfl) (by decide) (ce7 (show kd 96 = 7 from rfl)) rfl rfl rfl rfl (Nat.le_of_ble_eq_true rfl) dX7_correctedOf_3) ?_
  refine wa_istore_n (lv' := [(3, .int _), (0, .ref _), (1, .int _), (2, .int _)]) hC dX7_correctedOf_6 rfl (by decide) rfl ?_
  refine wa_iload_n hC dX7_correctedOf_7 rfl 0 rfl ?_
  refine wa_iconst (v := -1) hC dX7_correctedOf_8 (by decide) ?_
  refine wa_icmp_ne hC 19 dX7_correctedOf_9 (by decide) (fun c2 => ?_) (fun c2 => ?_)
  · have hf := ite_f hf c2
    refine wa_aload_n hC dX7_correctedOf_19 rfl 1 rfl ?_
    refine rg7_10 hC fiX7_correctedOf_7 mbX7_correctedOf_26 dX7_correctedOf_20 ?_
    refine wa_aload_n hC dX7_correctedOf_23 rfl 1 rfl ?_
    refine rg7_13 hC fiX7_correctedOf_7 mbX7_correctedOf_36 dX7_correctedOf_24 ?_
    refine wa_iload_n hC dX7_correctedOf_27 rfl 0 rfl ?_
    obtain ⟨k3, h3, hf⟩ := bd hf
    obtain ⟨hv3, rfl⟩ := ix_some h3
    refine wa_iald hC (show kd 105 = 20 from rfl) hv3 dX7_correctedOf_28 ?_
    obtain ⟨k4, h4, hf⟩ := bd hf
    obtain ⟨hv4, rfl⟩ := ix_some h4
    refine wa_iald hC (show kd 102 = 20 from rfl) hv4 dX7_correctedOf_29 ?_
    refine wa_aload_n hC dX7_correctedOf_30 rfl 1 rfl ?_
    refine rg7_10 hC fiX7_correctedOf_7 mbX7_correctedOf_26 dX7_correctedOf_31 ?_
    refine wa_aload_n hC dX7_correctedOf_34 rfl 1 rfl ?_
    refine rg7_12 hC fiX7_correctedOf_7 mbX7_correctedOf_33 dX7_correctedOf_35 ?_
    refine wa_iload_n hC dX7_correctedOf_38 rfl 0 rfl ?_
    obtain ⟨k5, h5, hf⟩ := bd hf
    obtain ⟨hv5, rfl⟩ := ix_some h5
    refine wa_iald hC (show kd 104 = 20 from rfl) hv5 dX7_correctedOf_39 ?_
    obtain ⟨k6, h6, hf⟩ := bd hf
    obtain ⟨hv6, rfl⟩ := ix_some h6
    refine wa_iald hC (show kd 102 = 20 from rfl) hv6 dX7_correctedOf_40 ?_
    refine wa_isub hC dX7_correctedOf_41 ?_
    refine wa_i2l hC dX7_correctedOf_42 rfl ?_
    refine wa_lstore (lv' := [(4, .long _), (3, .int _), (0, .ref _), (1, .int _), (2, .int _)]) hC dX7_correctedOf_43 (by decide) rfl ?_
    refine wa_aload_n hC dX7_correctedOf_45 rfl 2 rfl ?_
    refine wa_iload_n hC dX7_correctedOf_46 rfl 3 rfl ?_
    refine wa_iconst (v := 0) hC dX7_correctedOf_47 (by decide) ?_
    refine wa_iload_n hC dX7_correctedOf_48 rfl 4 rfl ?_
    obtain ⟨v7, h7, hf⟩ := bd hf
    refine wa_calli (rest := []) (wr_V hC (kX7_of l G h7) (cwV 3 hC.1.2.2.2.2 gX7_correctedOf_X7_of rfl rfl rfl (by decide +kernel) ⟨Nat.le_of_ble_eq_true rfl, Nat.le_of_ble_eq_true rfl⟩) (show kd 96 = 7 from rfl) (by decide) (ce7 (show kd 96 = 7 from rfl)) rfl rfl rfl rfl (Nat.le_of_ble_eq_true rfl) dX7_correctedOf_49) ?_
    refine wa_aload_n hC dX7_correctedOf_52 rfl 2 rfl ?_
    refine wa_iload_n hC dX7_correctedOf_53 rfl 3 rfl ?_
    refine wa_iconst (v := 0) hC dX7_correctedOf_54 (by decide) ?_
    refine wa_aload_n hC dX7_correctedOf_55 rfl 2 rfl ?_
    refine rg7_12 hC fiX7_correctedOf_7 mbX7_correctedOf_33 dX7_correctedOf_56 ?_
    refine wa_iload_n hC dX7_correctedOf_59 rfl 1 rfl ?_
    obtain ⟨k8, h8, hf⟩ := bd hf
    obtain ⟨hv8, rfl⟩ := ix_some h8
    refine wa_iald hC (show kd 104 = 20 from rfl) hv8 dX7_correctedOf_60 ?_
    obtain ⟨v9, h9, hf⟩ := bd hf
    refine wa_calli (rest := [_]) (wr_V hC (kX7_of l G h9) (cwV 3 hC.1.2.2.2.2 gX7_correctedOf_X7_of rfl rfl rfl (by decide +kernel) ⟨Nat.le_of_ble_eq_true rfl, Nat.le_of_ble_eq_true rfl⟩) (show kd 96 = 7 from rfl) (by decide) (ce7 (show kd 96 = 7 from rfl)) rfl rfl rfl rfl (Nat.le_of_ble_eq_true rfl) dX7_correctedOf_61) ?_
    refine wa_isub hC dX7_correctedOf_64 ?_
    refine wa_istore (lv' := [(6, .int _), (4, .long _), (3, .int _), (0, .ref _), (1, .int _), (2, .int _)]) hC dX7_correctedOf_65 (by decide) rfl ?_
    refine wa_aload_n hC dX7_correctedOf_67 rfl 3 rfl ?_
    refine rg7_10 hC fiX7_correctedOf_7 mbX7_correctedOf_26 dX7_correctedOf_68 ?_
    refine wa_iload_n hC dX7_correctedOf_71 rfl 5 rfl ?_
    obtain ⟨k10, h10, hf⟩ := bd hf
    obtain ⟨hv10, rfl⟩ := ix_some h10
    refine wa_iald hC (show kd 102 = 20 from rfl) hv10 dX7_correctedOf_72 ?_
    refine wa_lload hC dX7_correctedOf_73 1 rfl ?_
    refine wa_iload hC dX7_correctedOf_75 0 rfl ?_
    refine wa_i2l hC dX7_correctedOf_77 rfl ?_
    refine wa_lmul hC dX7_correctedOf_78 ?_
    refine wa_aload_n hC dX7_correctedOf_79 rfl 3 rfl ?_
    refine wa_iload_n hC dX7_correctedOf_80 rfl 4 rfl ?_
    refine wa_iload_n hC dX7_correctedOf_81 rfl 2 rfl ?_
    obtain ⟨v11, h11, hf⟩ := bd hf
    refine wa_calli (rest := [_, _]) (wr_V hC (kX7_timeOf l G h11) (cwV 2 hC.1.2.2.2.2 gX7_correctedOf_X7_timeOf rfl rfl rfl (by decide +kernel) ⟨Nat.le_of_ble_eq_true rfl, Nat.le_of_ble_eq_true rfl⟩) (show kd 96 = 7 from rfl) (by decide) (ce7 (show kd 96 = 7 from rfl)) rfl rfl rfl rfl (Nat.le_of_ble_eq_true rfl) dX7_correctedOf_82) ?_
    refine wa_i2l hC dX7_correctedOf_85 rfl ?_
    obtain ⟨v12, h12, hf⟩ := bd hf
    refine wa_calll (rest := [_]) (wr_S hC (kX7_down l G h12) (va_cwS 2 hC.1.2.2.2.2 gX7_correctedOf_X7_down rfl rfl rfl (by decide +kernel) ⟨Nat.le_of_ble_eq_true rfl, Nat.le_of_ble_eq_true rfl⟩) rfl rfl (Nat.le_of_ble_eq_true rfl) dX7_correctedOf_86) ?_
    refine wa_l2i hC dX7_correctedOf_89 rfl ?_
    refine wa_isub hC dX7_correctedOf_90 ?_
    exact wa_iret hC hlk hr (so_inj hf) rfl dX7_correctedOf_91
  · have hf := ite_t hf c2
    refine wa_aload_n hC dX7_correctedOf_12 rfl 1 rfl ?_
    refine rg7_10 hC fiX7_correctedOf_7 mbX7_correctedOf_26 dX7_correctedOf_13 ?_
    refine wa_iload_n hC dX7_correctedOf_16 rfl 3 rfl ?_
    obtain ⟨k13, h13, hf⟩ := bd hf
    obtain ⟨hv13, rfl⟩ := ix_some h13
    refine wa_iald hC (show kd 102 = 20 from rfl) hv13 dX7_correctedOf_17 ?_
    exact wa_iret hC hlk hr (so_inj hf) rfl dX7_correctedOf_18
abbrev rmX7_gives : Room := { frames := 4, cells := 0, slots := 0, locals := 96 }
theorem fiX7_gives_7 : ∀ w ∈ u_ws RX7 TX7 21, w ∈ wsX7_gives := by decide +kernel
theorem mbX7_gives_173 : Cond.fieldLink RX7 173 "BaroRunsModel" "most" "I" ∈ wsX7_gives := by decide +kernel
theorem mbX7_gives_110 : Cond.fieldLink RX7 110 "BaroRunsModel" "many" "I" ∈ wsX7_gives := by decide +kernel
theorem mbX7_gives_170 : Cond.fieldLink RX7 170 "BaroRunsModel" "least" "I" ∈ wsX7_gives := by decide +kernel
theorem mbX7_gives_166 : Cond.fieldLink RX7 166 "BaroRunsModel" "sum" "J" ∈ wsX7_gives := by decide +kernel
theorem mbX7_gives_29 : Cond.fieldLink RX7 29 "BaroRunsModel" "isGood" "[Z" ∈ wsX7_gives := by decide +kernel
theorem mbX7_gives_36 : Cond.fieldLink RX7 36 "BaroRunsModel" "end" "[I" ∈ wsX7_gives := by decide +kernel
theorem mbX7_gives_7 : Cond.fieldLink RX7 7 "BaroRunsModel" "d" "[I" ∈ wsX7_gives := by decide +kernel
set_option maxHeartbeats 4000000 in
set_option maxRecDepth 100000 in
theorem kX7_gives (l : Launch) (G : wG) {x1 : Int32} {M0 M1 : wM} (hf : fX7_gives x1 M0 = some M1) : mV l yX7_gives wsX7_gives rmX7_gives G [.ref (ga G (96)), .int (x1)] M0 M1 := by
  refine mV.of (cc := cX7_gives) (nL := 6) (ret := none) (own := RX7) (lv := [(0, .ref (ga G (96))), (1, .int (x1))]) (plainFor_of_name (by decide +kernel)) rfl rfl (Nat.le_of_ble_eq_true rfl) rfl ?_
  intro p e s m args below meth c hC hr hlk
  have hJ170 : ∀ (bk12 : Int32 → wM → Option wM) (hbk12 : (∀ (x2 : Int32) (M0 : wM), bk12 x2 M0 = some M1 → wAt p l e rmX7_gives s m args below meth c (qV below args s G M1) 6 G M0 12 [(0, .ref (ga G (96))), (1, .int (x1)), (2, .int (x2))] [])) (bk24 : Int32 → Int32 → wM → Option wM) (hbk24 : (∀ (x2 : Int32) (x3 : Int32) (M0 : wM), bk24 x2 x3 M0 = some M1 → wAt p l e rmX7_gives s m args below meth c (qV below args s G M1) 6 G M0 24 [(0, .ref (ga G (96))), (1, .int (x1)), (2, .int (x2)), (3, .int (x3))] [])) (x2 : Int32) (x3 : Int32) (s1 : Int32) (M0 : wM), fX7_gives_J170 x1 bk12 bk24 x2 x3 s1 M0 = some M1 → wAt p l e rmX7_gives s m args below meth c (qV below args s G M1) 6 G M0 170 [(0, .ref (ga G (96))), (1, .int (x1)), (2, .int (x2)), (3, .int (x3))] [.int (s1), .ref (ga G (96))] := by
    intro bk12 hbk12 bk24 hbk24 x2 x3 s1 M0 hf
    unfold fX7_gives_J170 at hf
    refine rp7_20 hC fiX7_gives_7 mbX7_gives_173 dX7_gives_170 ?_
    refine wa_aload_n hC dX7_gives_173 rfl 0 rfl ?_
    refine wa_dup hC dX7_gives_174 rfl ?_
    refine rg7_18 hC fiX7_gives_7 mbX7_gives_110 dX7_gives_175 ?_
    refine wa_iconst (v := 1) hC dX7_gives_178 (by decide) ?_
    refine wa_iadd hC dX7_gives_179 ?_
    refine rp7_18 hC fiX7_gives_7 mbX7_gives_110 dX7_gives_180 ?_
    refine wa_iinc (v := _ + 1) (lv' := [(3, .int _), (0, .ref _), (1, .int _), (2, .int _)]) hC dX7_gives_183 (t := 3) rfl rfl (by decide) rfl ?_
    refine wa_goto hC 24 dX7_gives_186 (by decide) ?_
    exact wa_sub [1, 2, 3, 0] rfl (hbk24 _ _ _ hf)
  have hJ141 : ∀ (bk12 : Int32 → wM → Option wM) (hbk12 : (∀ (x2 : Int32) (M0 : wM), bk12 x2 M0 = some M1 → wAt p l e rmX7_gives s m args below meth c (qV below args s G M1) 6 G M0 12 [(0, .ref (ga G (96))), (1, .int (x1)), (2, .int (x2))] [])) (bk24 : Int32 → Int32 → wM → Option wM) (hbk24 : (∀ (x2 : Int32) (x3 : Int32) (M0 : wM), bk24 x2 x3 M0 = some M1 → wAt p l e rmX7_gives s m args below meth c (qV below args s G M1) 6 G M0 24 [(0, .ref (ga G (96))), (1, .int (x1)), (2, .int (x2)), (3, .int (x3))] [])) (x2 : Int32) (x3 : Int32) (x5 : Int32) (s1 : Int32) (M0 : wM), fX7_gives_J141 x1 bk12 bk24 x2 x3 x5 s1 M0 = some M1 → wAt p l e rmX7_gives s m args below meth c (qV below args s G M1) 6 G M0 141 [(0, .ref (ga G (96))), (1, .int (x1)), (2, .int (x2)), (3, .int (x3)), (5, .int (x5))] [.int (s1), .ref (ga G (96))] := by
    intro bk12 hbk12 bk24 hbk24 x2 x3 x5 s1 M0 hf
    unfold fX7_gives_J141 at hf
    refine rp7_19 hC fiX7_gives_7 mbX7_gives_170 dX7_gives_141 ?_
    refine wa_aload_n hC dX7_gives_144 rfl 0 rfl ?_
    refine wa_aload_n hC dX7_gives_145 rfl 0 rfl ?_
    refine rg7_18 hC fiX7_gives_7 mbX7_gives_110 dX7_gives_146 ?_
    refine wa_if_eq hC 161 dX7_gives_149 (by decide) (fun c1 => ?_) (fun c1 => ?_)
    · have hf := ite_t hf c1
      refine wa_iload hC dX7_gives_161 4 rfl ?_
      refine wa_goto hC 170 dX7_gives_163 (by decide) ?_
      exact wa_sub [0, 1, 2, 3] rfl (hJ170 bk12 hbk12 bk24 hbk24 _ _ _ _ hf)
    · have hf := ite_f hf c1
      refine wa_iload hC dX7_gives_152 4 rfl ?_
      refine wa_aload_n hC dX7_gives_154 rfl 0 rfl ?_
      refine rg7_20 hC fiX7_gives_7 mbX7_gives_173 dX7_gives_155 ?_
      refine wa_icmp_le hC 166 dX7_gives_158 (by decide) (fun c2 => ?_) (fun c2 => ?_)
      · have hf := ite_t hf c2
        refine wa_aload_n hC dX7_gives_166 rfl 0 rfl ?_
        refine rg7_20 hC fiX7_gives_7 mbX7_gives_173 dX7_gives_167 ?_
        exact wa_sub [0, 1, 2, 3] rfl (hJ170 bk12 hbk12 bk24 hbk24 _ _ _ _ hf)
      · have hf := ite_f hf c2
        refine wa_iload hC dX7_gives_161 4 rfl ?_
        refine wa_goto hC 170 dX7_gives_163 (by decide) ?_
        exact wa_sub [0, 1, 2, 3] rfl (hJ170 bk12 hbk12 bk24 hbk24 _ _ _ _ hf)
  have hJ95 : ∀ (bk12 : Int32 → wM → Option wM) (hbk12 : (∀ (x2 : Int32) (M0 : wM), bk12 x2 M0 = some M1 → wAt p l e rmX7_gives s m args below meth c (qV below args s G M1) 6 G M0 12 [(0, .ref (ga G (96))), (1, .int (x1)), (2, .int (x2))] [])) (bk24 : Int32 → Int32 → wM → Option wM) (hbk24 : (∀ (x2 : Int32) (x3 : Int32) (M0 : wM), bk24 x2 x3 M0 = some M1 → wAt p l e rmX7_gives s m args below meth c (qV below args s G M1) 6 G M0 24 [(0, .ref (ga G (96))), (1, .int (x1)), (2, .int (x2)), (3, .int (x3))] [])) (x2 : Int32) (x3 : Int32) (M0 : wM), fX7_gives_J95 x1 bk12 bk24 x2 x3 M0 = some M1 → wAt p l e rmX7_gives s m args below meth c (qV below args s G M1) 6 G M0 95 [(0, .ref (ga G (96))), (1, .int (x1)), (2, .int (x2)), (3, .int (x3))] [] := by
    intro bk12 hbk12 bk24 hbk24 x2 x3 M0 hf
    unfold fX7_gives_J95 at hf
    refine wa_aload_n hC dX7_gives_95 rfl 0 rfl ?_
    refine wa_iload_n hC dX7_gives_96 rfl 2 rfl ?_
    refine wa_iload_n hC dX7_gives_97 rfl 3 rfl ?_
    obtain ⟨v3, h3, hf⟩ := bd hf
    refine wa_calli (rest := []) (wr_V hC (kX7_correctedOf l G h3) (cwV 2 hC.1.2.2.2.2 gX7_gives_X7_correctedOf rfl rfl rfl (by decide +kernel) ⟨Nat.le_of_ble_eq_true rfl, Nat.le_of_ble_eq_true rfl⟩) (show kd 96 = 7 from rfl) (by decide) (ce7 (show kd 96 = 7 from rfl)) rfl rfl rfl rfl (Nat.le_of_ble_eq_true rfl) dX7_gives_98) ?_
    refine wa_istore (lv' := [(5, .int _), (0, .ref _), (1, .int _), (2, .int _), (3, .int _)]) hC dX7_gives_101 (by decide) rfl ?_
    refine wa_aload_n hC dX7_gives_103 rfl 1 rfl ?_
    refine wa_dup hC dX7_gives_104 rfl ?_
    refine rg7_17 hC fiX7_gives_7 mbX7_gives_166 dX7_gives_105 ?_
    refine wa_iload hC dX7_gives_108 0 rfl ?_
    refine wa_i2l hC dX7_gives_110 rfl ?_
    refine wa_ladd hC dX7_gives_111 ?_
    refine rp7_17 hC fiX7_gives_7 mbX7_gives_166 dX7_gives_112 ?_
    refine wa_aload_n hC dX7_gives_115 rfl 1 rfl ?_
    refine wa_aload_n hC dX7_gives_116 rfl 1 rfl ?_
    refine rg7_18 hC fiX7_gives_7 mbX7_gives_110 dX7_gives_117 ?_
    refine wa_if_eq hC 132 dX7_gives_120 (by decide) (fun c4 => ?_) (fun c4 => ?_)
    · have hf := ite_t hf c4
      refine wa_iload hC dX7_gives_132 0 rfl ?_
      refine wa_goto hC 141 dX7_gives_134 (by decide) ?_
      exact wa_sub [1, 2, 3, 4, 0] rfl (hJ141 bk12 hbk12 bk24 hbk24 _ _ _ _ _ hf)
    · have hf := ite_f hf c4
      refine wa_iload hC dX7_gives_123 0 rfl ?_
      refine wa_aload_n hC dX7_gives_125 rfl 1 rfl ?_
      refine rg7_19 hC fiX7_gives_7 mbX7_gives_170 dX7_gives_126 ?_
      refine wa_icmp_ge hC 137 dX7_gives_129 (by decide) (fun c5 => ?_) (fun c5 => ?_)
      · have hf := ite_t hf c5
        refine wa_aload_n hC dX7_gives_137 rfl 1 rfl ?_
        refine rg7_19 hC fiX7_gives_7 mbX7_gives_170 dX7_gives_138 ?_
        exact wa_sub [1, 2, 3, 4, 0] rfl (hJ141 bk12 hbk12 bk24 hbk24 _ _ _ _ _ hf)
      · have hf := ite_f hf c5
        refine wa_iload hC dX7_gives_132 0 rfl ?_
        refine wa_goto hC 141 dX7_gives_134 (by decide) ?_
        exact wa_sub [1, 2, 3, 4, 0] rfl (hJ141 bk12 hbk12 bk24 hbk24 _ _ _ _ _ hf)
  have hJ55 : ∀ (bk12 : Int32 → wM → Option wM) (hbk12 : (∀ (x2 : Int32) (M0 : wM), bk12 x2 M0 = some M1 → wAt p l e rmX7_gives s m args below meth c (qV below args s G M1) 6 G M0 12 [(0, .ref (ga G (96))), (1, .int (x1)), (2, .int (x2))] [])) (bk24 : Int32 → Int32 → wM → Option wM) (hbk24 : (∀ (x2 : Int32) (x3 : Int32) (M0 : wM), bk24 x2 x3 M0 = some M1 → wAt p l e rmX7_gives s m args below meth c (qV below args s G M1) 6 G M0 24 [(0, .ref (ga G (96))), (1, .int (x1)), (2, .int (x2)), (3, .int (x3))] [])) (x2 : Int32) (x3 : Int32) (s0 : Int32) (M0 : wM), fX7_gives_J55 x1 bk12 bk24 x2 x3 s0 M0 = some M1 → wAt p l e rmX7_gives s m args below meth c (qV below args s G M1) 6 G M0 55 [(0, .ref (ga G (96))), (1, .int (x1)), (2, .int (x2)), (3, .int (x3))] [.int (s0)] := by
    intro bk12 hbk12 bk24 hbk24 x2 x3 s0 M0 hf
    unfold fX7_gives_J55 at hf
    refine wa_istore (lv' := [(4, .int _), (0, .ref _), (1, .int _), (2, .int _), (3, .int _)]) hC dX7_gives_55 (by decide) rfl ?_
    refine wa_aload_n hC dX7_gives_57 rfl 1 rfl ?_
    refine rg7_11 hC fiX7_gives_7 mbX7_gives_29 dX7_gives_58 ?_
    refine wa_iload_n hC dX7_gives_61 rfl 4 rfl ?_
    obtain ⟨k6, h6, hf⟩ := bd hf
    obtain ⟨hv6, rfl⟩ := ix_some h6
    refine wa_zald hC (show kd 103 = 22 from rfl) hv6 dX7_gives_62 ?_
    refine wa_if_eq hC 183 dX7_gives_63 (by decide) (fun c7 => ?_) (fun c7 => ?_)
    · have hf := ite_t hf c7
      refine wa_iinc (v := _ + 1) (lv' := [(3, .int _), (4, .int _), (0, .ref _), (1, .int _), (2, .int _)]) hC dX7_gives_183 (t := 4) rfl rfl (by decide) rfl ?_
      refine wa_goto hC 24 dX7_gives_186 (by decide) ?_
      exact wa_sub [2, 3, 4, 0] rfl (hbk24 _ _ _ hf)
    · have hf := ite_f hf c7
      refine wa_aload_n hC dX7_gives_66 rfl 1 rfl ?_
      refine wa_iload_n hC dX7_gives_67 rfl 3 rfl ?_
      refine wa_bipush (v := 60) hC dX7_gives_68 (by decide) ?_
      refine wa_iload_n hC dX7_gives_70 rfl 4 rfl ?_
      obtain ⟨v8, h8, hf⟩ := bd hf
      refine wa_calli (rest := []) (wr_V hC (kX7_of l G h8) (cwV 3 hC.1.2.2.2.2 gX7_gives_X7_of rfl rfl rfl (by decide +kernel) ⟨Nat.le_of_ble_eq_true rfl, Nat.le_of_ble_eq_true rfl⟩) (show kd 96 = 7 from rfl) (by decide) (ce7 (show kd 96 = 7 from rfl)) rfl rfl rfl rfl (Nat.le_of_ble_eq_true rfl) dX7_gives_71) ?_
      refine wa_iload_n hC dX7_gives_74 rfl 2 rfl ?_
      refine wa_icmp_ne hC 183 dX7_gives_75 (by decide) (fun c9 => ?_) (fun c9 => ?_)
      · have hf := ite_f hf c9
        refine wa_iinc (v := _ + 1) (lv' := [(3, .int _), (4, .int _), (0, .ref _), (1, .int _), (2, .int _)]) hC dX7_gives_183 (t := 4) rfl rfl (by decide) rfl ?_
        refine wa_goto hC 24 dX7_gives_186 (by decide) ?_
        exact wa_sub [2, 3, 4, 0] rfl (hbk24 _ _ _ hf)
      · have hf := ite_t hf c9
        refine wa_iload hC dX7_gives_78 0 rfl ?_
        refine wa_iconst (v := -1) hC dX7_gives_80 (by decide) ?_
        refine wa_icmp_eq hC 95 dX7_gives_81 (by decide) (fun c10 => ?_) (fun c10 => ?_)
        · have hf := ite_t hf c10
          exact wa_sub [1, 2, 3, 4] rfl (hJ95 bk12 hbk12 bk24 hbk24 _ _ _ hf)
        · have hf := ite_f hf c10
          refine wa_aload_n hC dX7_gives_84 rfl 1 rfl ?_
          refine rg7_13 hC fiX7_gives_7 mbX7_gives_36 dX7_gives_85 ?_
          refine wa_iload hC dX7_gives_88 0 rfl ?_
          obtain ⟨k11, h11, hf⟩ := bd hf
          obtain ⟨hv11, rfl⟩ := ix_some h11
          refine wa_iald hC (show kd 105 = 20 from rfl) hv11 dX7_gives_90 ?_
          refine wa_iload_n hC dX7_gives_91 rfl 4 rfl ?_
          refine wa_icmp_eq hC 183 dX7_gives_92 (by decide) (fun c12 => ?_) (fun c12 => ?_)
          · have hf := ite_t hf c12
            refine wa_iinc (v := _ + 1) (lv' := [(3, .int _), (4, .int _), (0, .ref _), (1, .int _), (2, .int _)]) hC dX7_gives_183 (t := 4) rfl rfl (by decide) rfl ?_
            refine wa_goto hC 24 dX7_gives_186 (by decide) ?_
            exact wa_sub [2, 3, 4, 0] rfl (hbk24 _ _ _ hf)
          · have hf := ite_f hf c12
            exact wa_sub [1, 2, 3, 4] rfl (hJ95 bk12 hbk12 bk24 hbk24 _ _ _ hf)
  have hB24 : ∀ (bk12 : Int32 → wM → Option wM) (hbk12 : (∀ (x2 : Int32) (M0 : wM), bk12 x2 M0 = some M1 → wAt p l e rmX7_gives s m args below meth c (qV below args s G M1) 6 G M0 12 [(0, .ref (ga G (96))), (1, .int (x1)), (2, .int (x2))] [])) (bk24 : Int32 → Int32 → wM → Option wM) (hbk24 : (∀ (x2 : Int32) (x3 : Int32) (M0 : wM), bk24 x2 x3 M0 = some M1 → wAt p l e rmX7_gives s m args below meth c (qV below args s G M1) 6 G M0 24 [(0, .ref (ga G (96))), (1, .int (x1)), (2, .int (x2)), (3, .int (x3))] [])) (x2 : Int32) (x3 : Int32) (M0 : wM), fX7_gives_B24 x1 bk12 bk24 x2 x3 M0 = some M1 → wAt p l e rmX7_gives s m args below meth c (qV below args s G M1) 6 G M0 24 [(0, .ref (ga G (96))), (1, .int (x1)), (2, .int (x2)), (3, .int (x3))] [] := by
    intro bk12 hbk12 bk24 hbk24 x2 x3 M0 hf
    unfold fX7_gives_B24 at hf
    refine wa_iload_n hC dX7_gives_24 rfl 3 rfl ?_
    refine wa_aload_n hC dX7_gives_25 rfl 0 rfl ?_
    refine rg7_0 hC fiX7_gives_7 mbX7_gives_7 dX7_gives_26 ?_
    refine wa_iconst (v := 3) hC dX7_gives_29 (by decide) ?_
    refine wa_iload_n hC dX7_gives_30 rfl 2 rfl ?_
    refine wa_iadd hC dX7_gives_31 ?_
    obtain ⟨k13, h13, hf⟩ := bd hf
    obtain ⟨hv13, rfl⟩ := ix_some h13
    refine wa_iald hC (show kd 97 = 20 from rfl) hv13 dX7_gives_32 ?_
    refine wa_icmp_ge hC 189 dX7_gives_33 (by decide) (fun c14 => ?_) (fun c14 => ?_)
    · have hf := ite_t hf c14
      refine wa_iinc (v := _ + 1) (lv' := [(2, .int _), (0, .ref _), (1, .int _), (3, .int _)]) hC dX7_gives_189 (t := 2) rfl rfl (by decide) rfl ?_
      refine wa_goto hC 12 dX7_gives_192 (by decide) ?_
      exact wa_sub [1, 2, 0] rfl (hbk12 _ _ hf)
    · have hf := ite_f hf c14
      refine wa_aload_n hC dX7_gives_36 rfl 0 rfl ?_
      refine rg7_11 hC fiX7_gives_7 mbX7_gives_29 dX7_gives_37 ?_
      refine wa_iload_n hC dX7_gives_40 rfl 3 rfl ?_
      obtain ⟨k15, h15, hf⟩ := bd hf
      obtain ⟨hv15, rfl⟩ := ix_some h15
      refine wa_zald hC (show kd 103 = 22 from rfl) hv15 dX7_gives_41 ?_
      refine wa_if_eq hC 54 dX7_gives_42 (by decide) (fun c16 => ?_) (fun c16 => ?_)
      · have hf := ite_t hf c16
        refine wa_iconst (v := -1) hC dX7_gives_54 (by decide) ?_
        exact wa_sub [0, 1, 2, 3] rfl (hJ55 bk12 hbk12 bk24 hbk24 _ _ _ _ hf)
      · have hf := ite_f hf c16
        refine wa_aload_n hC dX7_gives_45 rfl 0 rfl ?_
        refine wa_iload_n hC dX7_gives_46 rfl 2 rfl ?_
        refine wa_iload_n hC dX7_gives_47 rfl 3 rfl ?_
        obtain ⟨v17, h17, hf⟩ := bd hf
        refine wa_calli (rest := []) (wr_V hC (kX7_open l G h17) (cwV 2 hC.1.2.2.2.2 gX7_gives_X7_open rfl rfl rfl (by decide +kernel) ⟨Nat.le_of_ble_eq_true rfl, Nat.le_of_ble_eq_true rfl⟩) (show kd 96 = 7 from rfl) (by decide) (ce7 (show kd 96 = 7 from rfl)) rfl rfl rfl rfl (Nat.le_of_ble_eq_true rfl) dX7_gives_48) ?_
        refine wa_goto hC 55 dX7_gives_51 (by decide) ?_
        exact wa_sub [0, 1, 2, 3] rfl (hJ55 bk12 hbk12 bk24 hbk24 _ _ _ _ hf)
  have hL24 : ∀ (bk12 : Int32 → wM → Option wM) (hbk12 : (∀ (x2 : Int32) (M0 : wM), bk12 x2 M0 = some M1 → wAt p l e rmX7_gives s m args below meth c (qV below args s G M1) 6 G M0 12 [(0, .ref (ga G (96))), (1, .int (x1)), (2, .int (x2))] [])) (n : Nat) (x2 : Int32) (x3 : Int32) (M0 : wM), fX7_gives_L24 x1 bk12 n x2 x3 M0 = some M1 → wAt p l e rmX7_gives s m args below meth c (qV below args s G M1) 6 G M0 24 [(0, .ref (ga G (96))), (1, .int (x1)), (2, .int (x2)), (3, .int (x3))] [] := by
    intro bk12 hbk12 n
    induction n with
    | zero =>
      intro x2 x3 M0 hf
      exact absurd hf (by simp [fX7_gives_L24])
    | succ n ih =>
      intro x2 x3 M0 hf
      exact hB24 bk12 hbk12 (fX7_gives_L24 x1 bk12 n) ih x2 x3 M0 hf
  have hB12 : ∀ (bk12 : Int32 → wM → Option wM) (hbk12 : (∀ (x2 : Int32) (M0 : wM), bk12 x2 M0 = some M1 → wAt p l e rmX7_gives s m args below meth c (qV below args s G M1) 6 G M0 12 [(0, .ref (ga G (96))), (1, .int (x1)), (2, .int (x2))] [])) (x2 : Int32) (M0 : wM), fX7_gives_B12 x1 bk12 x2 M0 = some M1 → wAt p l e rmX7_gives s m args below meth c (qV below args s G M1) 6 G M0 12 [(0, .ref (ga G (96))), (1, .int (x1)), (2, .int (x2))] [] := by
    intro bk12 hbk12 x2 M0 hf
    unfold fX7_gives_B12 at hf
    refine wa_iload_n hC dX7_gives_12 rfl 2 rfl ?_
    refine wa_iconst (v := 4) hC dX7_gives_13 (by decide) ?_
    refine wa_icmp_ge hC 195 dX7_gives_14 (by decide) (fun c18 => ?_) (fun c18 => ?_)
    · have hf := ite_t hf c18
      exact wa_vret hC hlk hr (so_inj hf) dX7_gives_195
    · have hf := ite_f hf c18
      refine wa_aload_n hC dX7_gives_17 rfl 0 rfl ?_
      refine wa_iload_n hC dX7_gives_18 rfl 2 rfl ?_
      obtain ⟨M19, h19, hf⟩ := bd hf
      refine wa_callv (rest := []) (wr_V hC (kX7_looks l G h19) (cwV 1 hC.1.2.2.2.2 gX7_gives_X7_looks rfl rfl rfl (by decide +kernel) ⟨Nat.le_of_ble_eq_true rfl, Nat.le_of_ble_eq_true rfl⟩) (show kd 96 = 7 from rfl) (by decide) (ce7 (show kd 96 = 7 from rfl)) rfl rfl rfl rfl (Nat.le_of_ble_eq_true rfl) dX7_gives_19) ?_
      refine wa_iconst (v := 0) hC dX7_gives_22 (by decide) ?_
      refine wa_istore_n (lv' := [(3, .int _), (0, .ref _), (1, .int _), (2, .int _)]) hC dX7_gives_23 rfl (by decide) rfl ?_
      exact wa_sub [1, 2, 3, 0] rfl (hL24 bk12 hbk12 FU _ _ _ hf)
  have hL12 : ∀ (n : Nat) (x2 : Int32) (M0 : wM), fX7_gives_L12 x1  n x2 M0 = some M1 → wAt p l e rmX7_gives s m args below meth c (qV below args s G M1) 6 G M0 12 [(0, .ref (ga G (96))), (1, .int (x1)), (2, .int (x2))] [] := by
    intro  n
    induction n with
    | zero =>
      intro x2 M0 hf
      exact absurd hf (by simp [fX7_gives_L12])
    | succ n ih =>
      intro x2 M0 hf
      exact hB12  (fX7_gives_L12 x1  n) ih x2 M0 hf
  unfold fX7_gives at hf
  refine wa_aload_n hC dX7_gives_0 rfl 0 rfl ?_
  refine wa_lconst (v := 0) hC dX7_gives_1 (by decide) ?_
  refine rp7_17 hC fiX7_gives_7 mbX7_gives_166 dX7_gives_2 ?_
  refine wa_aload_n hC dX7_gives_5 rfl 0 rfl ?_
  refine wa_iconst (v := 0) hC dX7_gives_6 (by decide) ?_
  refine rp7_18 hC fiX7_gives_7 mbX7_gives_110 dX7_gives_7 ?_
  refine wa_iconst (v := 1) hC dX7_gives_10 (by decide) ?_
  refine wa_istore_n (lv' := [(2, .int _), (0, .ref _), (1, .int _)]) hC dX7_gives_11 rfl (by decide) rfl ?_
  exact wa_sub [1, 2, 0] rfl (hL12 FU _ _ hf)
abbrev rmX7_heights : Room := { frames := 5, cells := 0, slots := 0, locals := 121 }
theorem fiX7_heights_7 : ∀ w ∈ u_ws RX7 TX7 21, w ∈ wsX7_heights := by decide +kernel
theorem mbX7_heights_110 : Cond.fieldLink RX7 110 "BaroRunsModel" "many" "I" ∈ wsX7_heights := by decide +kernel
set_option maxHeartbeats 4000000 in
set_option maxRecDepth 100000 in
theorem kX7_heights (l : Launch) (G : wG)  {M0 M1 : wM} {r : Int32} (hf : fX7_heights  M0 = some (r, M1)) : mI l yX7_heights wsX7_heights rmX7_heights G [.ref (ga G (96))] M0 r M1 := by
  refine mI.of (cc := cX7_heights) (nL := 3) (ret := (some .int)) (own := RX7) (lv := [(0, .ref (ga G (96)))]) (plainFor_of_name (by decide +kernel)) rfl rfl (Nat.le_of_ble_eq_true rfl) rfl ?_
  intro p e s m args below meth c hC hr hlk
  have hB4 : ∀ (bk4 : Int32 → Int32 → wM → Option (Int32 × wM)) (hbk4 : (∀ (x1 : Int32) (x2 : Int32) (M0 : wM), bk4 x1 x2 M0 = some (r, M1) → wAt p l e rmX7_heights s m args below meth c (qI below args s G r M1) 3 G M0 4 [(0, .ref (ga G (96))), (1, .int (x1)), (2, .int (x2))] [])) (x1 : Int32) (x2 : Int32) (M0 : wM), fX7_heights_B4  bk4 x1 x2 M0 = some (r, M1) → wAt p l e rmX7_heights s m args below meth c (qI below args s G r M1) 3 G M0 4 [(0, .ref (ga G (96))), (1, .int (x1)), (2, .int (x2))] [] := by
    intro bk4 hbk4 x1 x2 M0 hf
    unfold fX7_heights_B4 at hf
    refine wa_iload_n hC dX7_heights_4 rfl 2 rfl ?_
    refine wa_bipush (v := 10) hC dX7_heights_5 (by decide) ?_
    refine wa_icmp_ge hC 36 dX7_heights_7 (by decide) (fun c1 => ?_) (fun c1 => ?_)
    · have hf := ite_t hf c1
      refine wa_iload_n hC dX7_heights_36 rfl 1 rfl ?_
      exact wa_iret hC hlk hr (congrArg Prod.fst (so_inj hf)) (congrArg Prod.snd (so_inj hf)) dX7_heights_37
    · have hf := ite_f hf c1
      refine wa_aload_n hC dX7_heights_10 rfl 0 rfl ?_
      refine wa_iload_n hC dX7_heights_11 rfl 2 rfl ?_
      obtain ⟨M2, h2, hf⟩ := bd hf
      refine wa_callv (rest := []) (wr_V hC (kX7_gives l G h2) (cwV 1 hC.1.2.2.2.2 gX7_heights_X7_gives rfl rfl rfl (by decide +kernel) ⟨Nat.le_of_ble_eq_true rfl, Nat.le_of_ble_eq_true rfl⟩) (show kd 96 = 7 from rfl) (by decide) (ce7 (show kd 96 = 7 from rfl)) rfl rfl rfl rfl (Nat.le_of_ble_eq_true rfl) dX7_heights_12) ?_
      refine wa_iload_n hC dX7_heights_15 rfl 1 rfl ?_
      refine wa_aload_n hC dX7_heights_16 rfl 0 rfl ?_
      refine rg7_18 hC fiX7_heights_7 mbX7_heights_110 dX7_heights_17 ?_
      refine wa_if_le hC 27 dX7_heights_20 (by decide) (fun c3 => ?_) (fun c3 => ?_)
      · have hf := ite_t hf c3
        refine wa_iconst (v := 0) hC dX7_heights_27 (by decide) ?_
        refine wa_iadd hC dX7_heights_28 ?_
        refine wa_istore_n (lv' := [(1, .int _), (0, .ref _), (2, .int _)]) hC dX7_heights_29 rfl (by decide) rfl ?_
        refine wa_iinc (v := _ + 1) (lv' := [(2, .int _), (1, .int _), (0, .ref _)]) hC dX7_heights_30 (t := 2) rfl rfl (by decide) rfl ?_
        refine wa_goto hC 4 dX7_heights_33 (by decide) ?_
        exact wa_sub [2, 1, 0] rfl (hbk4 _ _ _ hf)
      · have hf := ite_f hf c3
        refine wa_iconst (v := 1) hC dX7_heights_23 (by decide) ?_
        refine wa_goto hC 28 dX7_heights_24 (by decide) ?_
        refine wa_iadd hC dX7_heights_28 ?_
        refine wa_istore_n (lv' := [(1, .int _), (0, .ref _), (2, .int _)]) hC dX7_heights_29 rfl (by decide) rfl ?_
        refine wa_iinc (v := _ + 1) (lv' := [(2, .int _), (1, .int _), (0, .ref _)]) hC dX7_heights_30 (t := 2) rfl rfl (by decide) rfl ?_
        refine wa_goto hC 4 dX7_heights_33 (by decide) ?_
        exact wa_sub [2, 1, 0] rfl (hbk4 _ _ _ hf)
  have hL4 : ∀ (n : Nat) (x1 : Int32) (x2 : Int32) (M0 : wM), fX7_heights_L4   n x1 x2 M0 = some (r, M1) → wAt p l e rmX7_heights s m args below meth c (qI below args s G r M1) 3 G M0 4 [(0, .ref (ga G (96))), (1, .int (x1)), (2, .int (x2))] [] := by
    intro  n
    induction n with
    | zero =>
      intro x1 x2 M0 hf
      exact absurd hf (by simp [fX7_heights_L4])
    | succ n ih =>
      intro x1 x2 M0 hf
      exact hB4  (fX7_heights_L4   n) ih x1 x2 M0 hf
  unfold fX7_heights at hf
  refine wa_iconst (v := 0) hC dX7_heights_0 (by decide) ?_
  refine wa_istore_n (lv' := [(1, .int _), (0, .ref _)]) hC dX7_heights_1 rfl (by decide) rfl ?_
  refine wa_iconst (v := 0) hC dX7_heights_2 (by decide) ?_
  refine wa_istore_n (lv' := [(2, .int _), (1, .int _), (0, .ref _)]) hC dX7_heights_3 rfl (by decide) rfl ?_
  exact wa_sub [2, 1, 0] rfl (hL4 FU _ _ _ hf)
abbrev rmX7_count : Room := { frames := 6, cells := 0, slots := 0, locals := 143 }
theorem fiX7_count_7 : ∀ w ∈ u_ws RX7 TX7 21, w ∈ wsX7_count := by decide +kernel
theorem mbX7_count_7 : Cond.fieldLink RX7 7 "BaroRunsModel" "d" "[I" ∈ wsX7_count := by decide +kernel
theorem mbX7_count_45 : Cond.fieldLink RX7 45 "BaroRunsModel" "states" "I" ∈ wsX7_count := by decide +kernel
theorem mbX7_count_123 : Cond.fieldLink RX7 123 "BaroRunsModel" "typed" "I" ∈ wsX7_count := by decide +kernel
theorem mbX7_count_55 : Cond.constant RX7 55 (-2000000001) ∈ wsX7_count := by decide +kernel
set_option maxHeartbeats 4000000 in
set_option maxRecDepth 100000 in
theorem kX7_count (l : Launch) (G : wG) {x1 : Int32} {M0 M1 : wM} {r : Int32} (hf : fX7_count x1 M0 = some (r, M1)) : mI l yX7_count wsX7_count rmX7_count G [.ref (ga G (96)), .int (x1)] M0 r M1 := by
  refine mI.of (cc := cX7_count) (nL := 2) (ret := (some .int)) (own := RX7) (lv := [(0, .ref (ga G (96))), (1, .int (x1))]) (plainFor_of_name (by decide +kernel)) rfl rfl (Nat.le_of_ble_eq_true rfl) rfl ?_
  intro p e s m args below meth c hC hr hlk
  have hJ113 : ∀ (M0 : wM), fX7_count_J113 x1   M0 = some (r, M1) → wAt p l e rmX7_count s m args below meth c (qI below args s G r M1) 2 G M0 113 [(0, .ref (ga G (96))), (1, .int (x1))] [] := by
    intro   M0 hf
    unfold fX7_count_J113 at hf
    refine wa_aload_n hC dX7_count_113 rfl 0 rfl ?_
    refine rg7_0 hC fiX7_count_7 mbX7_count_7 dX7_count_114 ?_
    refine wa_iload_n hC dX7_count_117 rfl 1 rfl ?_
    refine wa_bipush (v := 10) hC dX7_count_118 (by decide) ?_
    refine wa_isub hC dX7_count_120 ?_
    obtain ⟨k1, h1, hf⟩ := bd hf
    obtain ⟨hv1, rfl⟩ := ix_some h1
    refine wa_iald hC (show kd 97 = 20 from rfl) hv1 dX7_count_121 ?_
    exact wa_iret hC hlk hr (congrArg Prod.fst (so_inj hf)) (congrArg Prod.snd (so_inj hf)) dX7_count_122
  have hJ72 : ∀ (M0 : wM), fX7_count_J72 x1   M0 = some (r, M1) → wAt p l e rmX7_count s m args below meth c (qI below args s G r M1) 2 G M0 72 [(0, .ref (ga G (96))), (1, .int (x1))] [] := by
    intro   M0 hf
    unfold fX7_count_J72 at hf
    refine wa_aload_n hC dX7_count_72 rfl 0 rfl ?_
    refine rg7_0 hC fiX7_count_7 mbX7_count_7 dX7_count_73 ?_
    refine wa_iconst (v := 3) hC dX7_count_76 (by decide) ?_
    refine wa_iload_n hC dX7_count_77 rfl 1 rfl ?_
    refine wa_iadd hC dX7_count_78 ?_
    obtain ⟨k2, h2, hf⟩ := bd hf
    obtain ⟨hv2, rfl⟩ := ix_some h2
    refine wa_iald hC (show kd 97 = 20 from rfl) hv2 dX7_count_79 ?_
    exact wa_iret hC hlk hr (congrArg Prod.fst (so_inj hf)) (congrArg Prod.snd (so_inj hf)) dX7_count_80
  unfold fX7_count at hf
  refine wa_iload_n hC dX7_count_0 rfl 1 rfl ?_
  refine ite_e hf (fun c3 hf => ?_) (fun c3 hf => ?_)
  · skip
    refine wa_tableIn (off := 71) hC 72 dX7_count_1 (by rw [c3]; decide) (by rw [c3]; decide) (by rw [c3] <;> decide) (by decide) ?_
    exact wa_sub [0, 1] rfl (hJ72   _ hf)
  · skip
    refine ite_e hf (fun c4 hf => ?_) (fun c4 hf => ?_)
    · skip
      refine wa_tableIn (off := 71) hC 72 dX7_count_1 (by rw [c4]; decide) (by rw [c4]; decide) (by rw [c4] <;> decide) (by decide) ?_
      exact wa_sub [0, 1] rfl (hJ72   _ hf)
    · skip
      refine ite_e hf (fun c5 hf => ?_) (fun c5 hf => ?_)
      · skip
        refine wa_tableIn (off := 71) hC 72 dX7_count_1 (by rw [c5]; decide) (by rw [c5]; decide) (by rw [c5] <;> decide) (by decide) ?_
        exact wa_sub [0, 1] rfl (hJ72   _ hf)
      · skip
        refine ite_e hf (fun c6 hf => ?_) (fun c6 hf => ?_)
        · skip
          refine wa_tableIn (off := 71) hC 72 dX7_count_1 (by rw [c6]; decide) (by rw [c6]; decide) (by rw [c6] <;> decide) (by decide) ?_
          exact wa_sub [0, 1] rfl (hJ72   _ hf)
        · skip
          refine ite_e hf (fun c7 hf => ?_) (fun c7 hf => ?_)
          · skip
            refine wa_tableIn (off := 80) hC 81 dX7_count_1 (by rw [c7]; decide) (by rw [c7]; decide) (by rw [c7] <;> decide) (by decide) ?_
            refine wa_aload_n hC dX7_count_81 rfl 0 rfl ?_
            refine wa_iconst (v := 0) hC dX7_count_82 (by decide) ?_
            obtain ⟨⟨v8, M8⟩, h8, hf⟩ := bd hf
            dsimp only at hf
            refine wa_calli (rest := []) (wr_V hC (kX7_inAll l G h8) (cwV 1 hC.1.2.2.2.2 gX7_count_X7_inAll rfl rfl rfl (by decide +kernel) ⟨Nat.le_of_ble_eq_true rfl, Nat.le_of_ble_eq_true rfl⟩) (show kd 96 = 7 from rfl) (by decide) (ce7 (show kd 96 = 7 from rfl)) rfl rfl rfl rfl (Nat.le_of_ble_eq_true rfl) dX7_count_83) ?_
            exact wa_iret hC hlk hr (congrArg Prod.fst (so_inj hf)) (congrArg Prod.snd (so_inj hf)) dX7_count_86
          · skip
            refine ite_e hf (fun c9 hf => ?_) (fun c9 hf => ?_)
            · skip
              refine wa_tableIn (off := 86) hC 87 dX7_count_1 (by rw [c9]; decide) (by rw [c9]; decide) (by rw [c9] <;> decide) (by decide) ?_
              refine wa_aload_n hC dX7_count_87 rfl 0 rfl ?_
              refine wa_iconst (v := 1) hC dX7_count_88 (by decide) ?_
              obtain ⟨⟨v10, M10⟩, h10, hf⟩ := bd hf
              dsimp only at hf
              refine wa_calli (rest := []) (wr_V hC (kX7_inAll l G h10) (cwV 1 hC.1.2.2.2.2 gX7_count_X7_inAll rfl rfl rfl (by decide +kernel) ⟨Nat.le_of_ble_eq_true rfl, Nat.le_of_ble_eq_true rfl⟩) (show kd 96 = 7 from rfl) (by decide) (ce7 (show kd 96 = 7 from rfl)) rfl rfl rfl rfl (Nat.le_of_ble_eq_true rfl) dX7_count_89) ?_
              exact wa_iret hC hlk hr (congrArg Prod.fst (so_inj hf)) (congrArg Prod.snd (so_inj hf)) dX7_count_92
            · skip
              refine ite_e hf (fun c11 hf => ?_) (fun c11 hf => ?_)
              · skip
                refine wa_tableIn (off := 92) hC 93 dX7_count_1 (by rw [c11]; decide) (by rw [c11]; decide) (by rw [c11] <;> decide) (by decide) ?_
                refine wa_aload_n hC dX7_count_93 rfl 0 rfl ?_
                obtain ⟨v12, h12, hf⟩ := bd hf
                refine wa_calli (rest := []) (wr_V hC (kX7_steps l G h12) (cwV 0 hC.1.2.2.2.2 gX7_count_X7_steps rfl rfl rfl (by decide +kernel) ⟨Nat.le_of_ble_eq_true rfl, Nat.le_of_ble_eq_true rfl⟩) (show kd 96 = 7 from rfl) (by decide) (ce7 (show kd 96 = 7 from rfl)) rfl rfl rfl rfl (Nat.le_of_ble_eq_true rfl) dX7_count_94) ?_
                exact wa_iret hC hlk hr (congrArg Prod.fst (so_inj hf)) (congrArg Prod.snd (so_inj hf)) dX7_count_97
              · skip
                refine ite_e hf (fun c13 hf => ?_) (fun c13 hf => ?_)
                · skip
                  refine wa_tableIn (off := 97) hC 98 dX7_count_1 (by rw [c13]; decide) (by rw [c13]; decide) (by rw [c13] <;> decide) (by decide) ?_
                  refine wa_aload_n hC dX7_count_98 rfl 0 rfl ?_
                  obtain ⟨⟨v14, M14⟩, h14, hf⟩ := bd hf
                  dsimp only at hf
                  refine wa_calli (rest := []) (wr_V hC (kX7_heights l G h14) (cwV 0 hC.1.2.2.2.2 gX7_count_X7_heights rfl rfl rfl (by decide +kernel) ⟨Nat.le_of_ble_eq_true rfl, Nat.le_of_ble_eq_true rfl⟩) (show kd 96 = 7 from rfl) (by decide) (ce7 (show kd 96 = 7 from rfl)) rfl rfl rfl rfl (Nat.le_of_ble_eq_true rfl) dX7_count_99) ?_
                  exact wa_iret hC hlk hr (congrArg Prod.fst (so_inj hf)) (congrArg Prod.snd (so_inj hf)) dX7_count_102
                · skip
                  refine ite_e hf (fun c15 hf => ?_) (fun c15 hf => ?_)
                  · skip
                    refine wa_tableIn (off := 102) hC 103 dX7_count_1 (by rw [c15]; decide) (by rw [c15]; decide) (by rw [c15] <;> decide) (by decide) ?_
                    refine wa_aload_n hC dX7_count_103 rfl 0 rfl ?_
                    refine rg7_2 hC fiX7_count_7 mbX7_count_45 dX7_count_104 ?_
                    exact wa_iret hC hlk hr (congrArg Prod.fst (so_inj hf)) (congrArg Prod.snd (so_inj hf)) dX7_count_107
                  · skip
                    refine ite_e hf (fun c16 hf => ?_) (fun c16 hf => ?_)
                    · skip
                      refine wa_tableIn (off := 107) hC 108 dX7_count_1 (by rw [c16]; decide) (by rw [c16]; decide) (by rw [c16] <;> decide) (by decide) ?_
                      refine wa_aload_n hC dX7_count_108 rfl 0 rfl ?_
                      refine rg7_5 hC fiX7_count_7 mbX7_count_123 dX7_count_109 ?_
                      exact wa_iret hC hlk hr (congrArg Prod.fst (so_inj hf)) (congrArg Prod.snd (so_inj hf)) dX7_count_112
                    · skip
                      refine ite_e hf (fun c17 hf => ?_) (fun c17 hf => ?_)
                      · skip
                        refine wa_tableIn (off := 112) hC 113 dX7_count_1 (by rw [c17]; decide) (by rw [c17]; decide) (by rw [c17] <;> decide) (by decide) ?_
                        exact wa_sub [0, 1] rfl (hJ113   _ hf)
                      · skip
                        refine ite_e hf (fun c18 hf => ?_) (fun c18 hf => ?_)
                        · skip
                          refine wa_tableIn (off := 112) hC 113 dX7_count_1 (by rw [c18]; decide) (by rw [c18]; decide) (by rw [c18] <;> decide) (by decide) ?_
                          exact wa_sub [0, 1] rfl (hJ113   _ hf)
                        · skip
                          refine ite_e hf (fun c19 hf => ?_) (fun c19 hf => ?_)
                          · skip
                            refine wa_tableIn (off := 112) hC 113 dX7_count_1 (by rw [c19]; decide) (by rw [c19]; decide) (by rw [c19] <;> decide) (by decide) ?_
                            exact wa_sub [0, 1] rfl (hJ113   _ hf)
                          · skip
                            refine ite_e hf (fun c20 hf => ?_) (fun c20 hf => ?_)
                            · skip
                              refine wa_tableIn (off := 122) hC 123 dX7_count_1 (by rw [c20]; decide) (by rw [c20]; decide) (by rw [c20] <;> decide) (by decide) ?_
                              refine wa_aload_n hC dX7_count_123 rfl 0 rfl ?_
                              refine wa_iconst (v := 2) hC dX7_count_124 (by decide) ?_
                              obtain ⟨⟨v21, M21⟩, h21, hf⟩ := bd hf
                              dsimp only at hf
                              refine wa_calli (rest := []) (wr_V hC (kX7_inAll l G h21) (cwV 1 hC.1.2.2.2.2 gX7_count_X7_inAll rfl rfl rfl (by decide +kernel) ⟨Nat.le_of_ble_eq_true rfl, Nat.le_of_ble_eq_true rfl⟩) (show kd 96 = 7 from rfl) (by decide) (ce7 (show kd 96 = 7 from rfl)) rfl rfl rfl rfl (Nat.le_of_ble_eq_true rfl) dX7_count_125) ?_
                              exact wa_iret hC hlk hr (congrArg Prod.fst (so_inj hf)) (congrArg Prod.snd (so_inj hf)) dX7_count_128
                            · skip
                              have n3 := ti_ne c3 (a := 0) (by decide)
                              have n4 := ti_ne c4 (a := 1) (by decide)
                              have n5 := ti_ne c5 (a := 2) (by decide)
                              have n6 := ti_ne c6 (a := 3) (by decide)
                              have n7 := ti_ne c7 (a := 4) (by decide)
                              have n9 := ti_ne c9 (a := 5) (by decide)
                              have n11 := ti_ne c11 (a := 6) (by decide)
                              have n13 := ti_ne c13 (a := 7) (by decide)
                              have n15 := ti_ne c15 (a := 8) (by decide)
                              have n16 := ti_ne c16 (a := 9) (by decide)
                              have n17 := ti_ne c17 (a := 10) (by decide)
                              have n18 := ti_ne c18 (a := 11) (by decide)
                              have n19 := ti_ne c19 (a := 12) (by decide)
                              have n20 := ti_ne c20 (a := 13) (by decide)
                              refine wa_tableOut hC 129 dX7_count_1 (by omega) (by decide) ?_
                              refine wa_ldc hC mbX7_count_55 dX7_count_129 ?_
                              exact wa_iret hC hlk hr (congrArg Prod.fst (so_inj hf)) (congrArg Prod.snd (so_inj hf)) dX7_count_131
abbrev rmX7_undo : Room := { frames := 0, cells := 0, slots := 0, locals := 0 }
theorem fiX7_undo_7 : ∀ w ∈ u_ws RX7 TX7 21, w ∈ wsX7_undo := by decide +kernel
theorem mbX7_undo_45 : Cond.fieldLink RX7 45 "BaroRunsModel" "states" "I" ∈ wsX7_undo := by decide +kernel
theorem mbX7_undo_7 : Cond.fieldLink RX7 7 "BaroRunsModel" "d" "[I" ∈ wsX7_undo := by decide +kernel
theorem mbX7_undo_13 : Cond.fieldLink RX7 13 "BaroRunsModel" "was" "[I" ∈ wsX7_undo := by decide +kernel
theorem mbX7_undo_70 : Cond.constant RX7 70 (-2000000002) ∈ wsX7_undo := by decide +kernel
set_option maxHeartbeats 4000000 in
set_option maxRecDepth 100000 in
theorem kX7_undo (l : Launch) (G : wG)  {M0 M1 : wM} {r : Int32} (hf : fX7_undo  M0 = some (r, M1)) : mI l yX7_undo wsX7_undo rmX7_undo G [.ref (ga G (96))] M0 r M1 := by
  refine mI.of (cc := cX7_undo) (nL := 2) (ret := (some .int)) (own := RX7) (lv := [(0, .ref (ga G (96)))]) (plainFor_of_name (by decide +kernel)) rfl rfl (Nat.le_of_ble_eq_true rfl) rfl ?_
  intro p e s m args below meth c hC hr hlk
  have hB22 : ∀ (bk22 : Int32 → wM → Option (Int32 × wM)) (hbk22 : (∀ (x1 : Int32) (M0 : wM), bk22 x1 M0 = some (r, M1) → wAt p l e rmX7_undo s m args below meth c (qI below args s G r M1) 2 G M0 22 [(0, .ref (ga G (96))), (1, .int (x1))] [])) (x1 : Int32) (M0 : wM), fX7_undo_B22  bk22 x1 M0 = some (r, M1) → wAt p l e rmX7_undo s m args below meth c (qI below args s G r M1) 2 G M0 22 [(0, .ref (ga G (96))), (1, .int (x1))] [] := by
    intro bk22 hbk22 x1 M0 hf
    unfold fX7_undo_B22 at hf
    refine wa_iload_n hC dX7_undo_22 rfl 1 rfl ?_
    refine wa_sipush (v := 327) hC dX7_undo_23 (by decide) ?_
    refine wa_icmp_ge hC 56 dX7_undo_26 (by decide) (fun c1 => ?_) (fun c1 => ?_)
    · have hf := ite_t hf c1
      refine wa_aload_n hC dX7_undo_56 rfl 0 rfl ?_
      refine rg7_2 hC fiX7_undo_7 mbX7_undo_45 dX7_undo_57 ?_
      exact wa_iret hC hlk hr (congrArg Prod.fst (so_inj hf)) (congrArg Prod.snd (so_inj hf)) dX7_undo_60
    · have hf := ite_f hf c1
      refine wa_aload_n hC dX7_undo_29 rfl 0 rfl ?_
      refine rg7_0 hC fiX7_undo_7 mbX7_undo_7 dX7_undo_30 ?_
      refine wa_iload_n hC dX7_undo_33 rfl 1 rfl ?_
      refine wa_aload_n hC dX7_undo_34 rfl 0 rfl ?_
      refine rg7_1 hC fiX7_undo_7 mbX7_undo_13 dX7_undo_35 ?_
      refine wa_sipush (v := 327) hC dX7_undo_38 (by decide) ?_
      refine wa_aload_n hC dX7_undo_41 rfl 0 rfl ?_
      refine rg7_2 hC fiX7_undo_7 mbX7_undo_45 dX7_undo_42 ?_
      refine wa_imul hC dX7_undo_45 ?_
      refine wa_iload_n hC dX7_undo_46 rfl 1 rfl ?_
      refine wa_iadd hC dX7_undo_47 ?_
      obtain ⟨k2, h2, hf⟩ := bd hf
      obtain ⟨hv2, rfl⟩ := ix_some h2
      refine wa_iald hC (show kd 98 = 20 from rfl) hv2 dX7_undo_48 ?_
      obtain ⟨k3, h3, hf⟩ := bd hf
      obtain ⟨hv3, rfl⟩ := ix_some h3
      refine wa_iast hC (show kd 97 = 20 from rfl) hv3 rfl dX7_undo_49 ?_
      refine wa_iinc (v := _ + 1) (lv' := [(1, .int _), (0, .ref _)]) hC dX7_undo_50 (t := 1) rfl rfl (by decide) rfl ?_
      refine wa_goto hC 22 dX7_undo_53 (by decide) ?_
      exact wa_sub [1, 0] rfl (hbk22 _ _ hf)
  have hL22 : ∀ (n : Nat) (x1 : Int32) (M0 : wM), fX7_undo_L22   n x1 M0 = some (r, M1) → wAt p l e rmX7_undo s m args below meth c (qI below args s G r M1) 2 G M0 22 [(0, .ref (ga G (96))), (1, .int (x1))] [] := by
    intro  n
    induction n with
    | zero =>
      intro x1 M0 hf
      exact absurd hf (by simp [fX7_undo_L22])
    | succ n ih =>
      intro x1 M0 hf
      exact hB22  (fX7_undo_L22   n) ih x1 M0 hf
  unfold fX7_undo at hf
  refine wa_aload_n hC dX7_undo_0 rfl 0 rfl ?_
  refine rg7_2 hC fiX7_undo_7 mbX7_undo_45 dX7_undo_1 ?_
  refine wa_if_ne hC 10 dX7_undo_4 (by decide) (fun c4 => ?_) (fun c4 => ?_)
  · have hf := ite_f hf c4
    refine wa_aload_n hC dX7_undo_10 rfl 0 rfl ?_
    refine wa_dup hC dX7_undo_11 rfl ?_
    refine rg7_2 hC fiX7_undo_7 mbX7_undo_45 dX7_undo_12 ?_
    refine wa_iconst (v := 1) hC dX7_undo_15 (by decide) ?_
    refine wa_isub hC dX7_undo_16 ?_
    refine rp7_2 hC fiX7_undo_7 mbX7_undo_45 dX7_undo_17 ?_
    refine wa_iconst (v := 0) hC dX7_undo_20 (by decide) ?_
    refine wa_istore_n (lv' := [(1, .int _), (0, .ref _)]) hC dX7_undo_21 rfl (by decide) rfl ?_
    exact wa_sub [1, 0] rfl (hL22 FU _ _ hf)
  · have hf := ite_t hf c4
    refine wa_ldc hC mbX7_undo_70 dX7_undo_7 ?_
    exact wa_iret hC hlk hr (congrArg Prod.fst (so_inj hf)) (congrArg Prod.snd (so_inj hf)) dX7_undo_9
abbrev rmX7_baseAt : Room := { frames := 3, cells := 0, slots := 0, locals := 73 }
theorem fiX7_baseAt_7 : ∀ w ∈ u_ws RX7 TX7 21, w ∈ wsX7_baseAt := by decide +kernel
theorem mbX7_baseAt_55 : Cond.constant RX7 55 (-2000000001) ∈ wsX7_baseAt := by decide +kernel
theorem mbX7_baseAt_133 : Cond.fieldLink RX7 133 "BaroRunsModel" "baseWarm" "I" ∈ wsX7_baseAt := by decide +kernel
theorem mbX7_baseAt_130 : Cond.fieldLink RX7 130 "BaroRunsModel" "basePressure" "I" ∈ wsX7_baseAt := by decide +kernel
theorem mbX7_baseAt_92 : Cond.constant RX7 92 (-2000000004) ∈ wsX7_baseAt := by decide +kernel
set_option maxHeartbeats 4000000 in
set_option maxRecDepth 100000 in
theorem kX7_baseAt (l : Launch) (G : wG) {x1 : Int32} {x2 : Int32} {M0 M1 : wM} {r : Int32} (hf : fX7_baseAt x1 x2 M0 = some (r, M1)) : mI l yX7_baseAt wsX7_baseAt rmX7_baseAt G [.ref (ga G (96)), .int (x1), .int (x2)] M0 r M1 := by
  refine mI.of (cc := cX7_baseAt) (nL := 3) (ret := (some .int)) (own := RX7) (lv := [(0, .ref (ga G (96))), (1, .int (x1)), (2, .int (x2))]) (plainFor_of_name (by decide +kernel)) rfl rfl (Nat.le_of_ble_eq_true rfl) rfl ?_
  intro p e s m args below meth c hC hr hlk
  unfold fX7_baseAt at hf
  refine wa_iload_n hC dX7_baseAt_0 rfl 1 rfl ?_
  refine wa_iconst (v := 0) hC dX7_baseAt_1 (by decide) ?_
  refine wa_sipush (v := 10000) hC dX7_baseAt_2 (by decide) ?_
  obtain ⟨v1, h1, hf⟩ := bd hf
  refine wa_calli (rest := []) (wr_S hC (kX7_in l G h1) (va_cwS 3 hC.1.2.2.2.2 gX7_baseAt_X7_in rfl rfl rfl (by decide +kernel) ⟨Nat.le_of_ble_eq_true rfl, Nat.le_of_ble_eq_true rfl⟩) rfl rfl (Nat.le_of_ble_eq_true rfl) dX7_baseAt_5) ?_
  refine wa_if_eq hC 20 dX7_baseAt_8 (by decide) (fun c2 => ?_) (fun c2 => ?_)
  · have hf := ite_t hf c2
    refine wa_ldc hC mbX7_baseAt_55 dX7_baseAt_20 ?_
    exact wa_iret hC hlk hr (congrArg Prod.fst (so_inj hf)) (congrArg Prod.snd (so_inj hf)) dX7_baseAt_22
  · have hf := ite_f hf c2
    refine wa_iload_n hC dX7_baseAt_11 rfl 2 rfl ?_
    refine wa_iconst (v := 0) hC dX7_baseAt_12 (by decide) ?_
    refine wa_iconst (v := 1) hC dX7_baseAt_13 (by decide) ?_
    obtain ⟨v3, h3, hf⟩ := bd hf
    refine wa_calli (rest := []) (wr_S hC (kX7_in l G h3) (va_cwS 3 hC.1.2.2.2.2 gX7_baseAt_X7_in rfl rfl rfl (by decide +kernel) ⟨Nat.le_of_ble_eq_true rfl, Nat.le_of_ble_eq_true rfl⟩) rfl rfl (Nat.le_of_ble_eq_true rfl) dX7_baseAt_14) ?_
    refine wa_if_ne hC 23 dX7_baseAt_17 (by decide) (fun c4 => ?_) (fun c4 => ?_)
    · have hf := ite_f hf c4
      refine wa_aload_n hC dX7_baseAt_23 rfl 0 rfl ?_
      refine wa_iload_n hC dX7_baseAt_24 rfl 1 rfl ?_
      obtain ⟨⟨v5, M5⟩, h5, hf⟩ := bd hf
      dsimp only at hf
      refine wa_calli (rest := []) (wr_V hC (kX7_hasBase l G h5) (cwV 1 hC.1.2.2.2.2 gX7_baseAt_X7_hasBase rfl rfl rfl (by decide +kernel) ⟨Nat.le_of_ble_eq_true rfl, Nat.le_of_ble_eq_true rfl⟩) (show kd 96 = 7 from rfl) (by decide) (ce7 (show kd 96 = 7 from rfl)) rfl rfl rfl rfl (Nat.le_of_ble_eq_true rfl) dX7_baseAt_25) ?_
      refine wa_if_ne hC 36 dX7_baseAt_28 (by decide) (fun c6 => ?_) (fun c6 => ?_)
      · have hf := ite_f hf c6
        refine wa_iload_n hC dX7_baseAt_36 rfl 2 rfl ?_
        refine wa_if_ne hC 47 dX7_baseAt_37 (by decide) (fun c7 => ?_) (fun c7 => ?_)
        · have hf := ite_f hf c7
          refine wa_aload_n hC dX7_baseAt_47 rfl 0 rfl ?_
          refine rg7_16 hC fiX7_baseAt_7 mbX7_baseAt_133 dX7_baseAt_48 ?_
          exact wa_iret hC hlk hr (congrArg Prod.fst (so_inj hf)) (congrArg Prod.snd (so_inj hf)) dX7_baseAt_51
        · have hf := ite_t hf c7
          refine wa_aload_n hC dX7_baseAt_40 rfl 0 rfl ?_
          refine rg7_15 hC fiX7_baseAt_7 mbX7_baseAt_130 dX7_baseAt_41 ?_
          refine wa_goto hC 51 dX7_baseAt_44 (by decide) ?_
          exact wa_iret hC hlk hr (congrArg Prod.fst (so_inj hf)) (congrArg Prod.snd (so_inj hf)) dX7_baseAt_51
      · have hf := ite_t hf c6
        refine wa_ldc hC mbX7_baseAt_92 dX7_baseAt_31 ?_
        refine wa_goto hC 51 dX7_baseAt_33 (by decide) ?_
        exact wa_iret hC hlk hr (congrArg Prod.fst (so_inj hf)) (congrArg Prod.snd (so_inj hf)) dX7_baseAt_51
    · have hf := ite_t hf c4
      refine wa_ldc hC mbX7_baseAt_55 dX7_baseAt_20 ?_
      exact wa_iret hC hlk hr (congrArg Prod.fst (so_inj hf)) (congrArg Prod.snd (so_inj hf)) dX7_baseAt_22
abbrev rmX7_step : Room := { frames := 2, cells := 0, slots := 0, locals := 47 }
theorem mbX7_step_55 : Cond.constant RX7 55 (-2000000001) ∈ wsX7_step := by decide +kernel
set_option maxHeartbeats 4000000 in
set_option maxRecDepth 100000 in
theorem kX7_step (l : Launch) (G : wG) {x1 : Int32} {M0 : wM} {r : Int32} (hf : fX7_step x1 M0 = some r) : mI l yX7_step wsX7_step rmX7_step G [.ref (ga G (96)), .int (x1)] M0 r M0 := by
  refine mI.of (cc := cX7_step) (nL := 3) (ret := (some .int)) (own := RX7) (lv := [(0, .ref (ga G (96))), (1, .int (x1))]) (plainFor_of_name (by decide +kernel)) rfl rfl (Nat.le_of_ble_eq_true rfl) rfl ?_
  intro p e s m args below meth c hC hr hlk
  have hJ13 : ∀ (s0 : Int32), fX7_step_J13 x1 M0  s0 = some r → wAt p l e rmX7_step s m args below meth c (qI below args s G r M0) 3 G M0 13 [] [.int (s0)] := by
    intro  s0 hf
    unfold fX7_step_J13 at hf
    refine wa_istore_n (lv' := [(2, .int _)]) hC dX7_step_13 rfl (by decide) rfl ?_
    refine wa_iload_n hC dX7_step_14 rfl 0 rfl ?_
    refine wa_iconst (v := -1) hC dX7_step_15 (by decide) ?_
    refine wa_icmp_ne hC 24 dX7_step_16 (by decide) (fun c1 => ?_) (fun c1 => ?_)
    · have hf := ite_f hf c1
      refine wa_iload_n hC dX7_step_24 rfl 0 rfl ?_
      exact wa_iret hC hlk hr (so_inj hf) rfl dX7_step_25
    · have hf := ite_t hf c1
      refine wa_ldc hC mbX7_step_55 dX7_step_19 ?_
      refine wa_goto hC 25 dX7_step_21 (by decide) ?_
      exact wa_iret hC hlk hr (so_inj hf) rfl dX7_step_25
  unfold fX7_step at hf
  refine wa_iload_n hC dX7_step_0 rfl 1 rfl ?_
  refine wa_if_ge hC 8 dX7_step_1 (by decide) (fun c2 => ?_) (fun c2 => ?_)
  · have hf := ite_t hf c2
    refine wa_aload_n hC dX7_step_8 rfl 0 rfl ?_
    refine wa_iload_n hC dX7_step_9 rfl 1 rfl ?_
    obtain ⟨v3, h3, hf⟩ := bd hf
    refine wa_calli (rest := []) (wr_V hC (kX7_stepsTo l G h3) (cwV 1 hC.1.2.2.2.2 gX7_step_X7_stepsTo rfl rfl rfl (by decide +kernel) ⟨Nat.le_of_ble_eq_true rfl, Nat.le_of_ble_eq_true rfl⟩) (show kd 96 = 7 from rfl) (by decide) (ce7 (show kd 96 = 7 from rfl)) rfl rfl rfl rfl (Nat.le_of_ble_eq_true rfl) dX7_step_10) ?_
    exact wa_sub [] rfl (hJ13  _ hf)
  · have hf := ite_f hf c2
    refine wa_iconst (v := -1) hC dX7_step_4 (by decide) ?_
    refine wa_goto hC 13 dX7_step_5 (by decide) ?_
    exact wa_sub [] rfl (hJ13  _ hf)
abbrev rmX7_raw : Room := { frames := 3, cells := 0, slots := 0, locals := 73 }
theorem mbX7_raw_55 : Cond.constant RX7 55 (-2000000001) ∈ wsX7_raw := by decide +kernel
theorem mbX7_raw_92 : Cond.constant RX7 92 (-2000000004) ∈ wsX7_raw := by decide +kernel
set_option maxHeartbeats 4000000 in
set_option maxRecDepth 100000 in
theorem kX7_raw (l : Launch) (G : wG) {x1 : Int32} {x2 : Int32} {M0 M1 : wM} {r : Int32} (hf : fX7_raw x1 x2 M0 = some (r, M1)) : mI l yX7_raw wsX7_raw rmX7_raw G [.ref (ga G (96)), .int (x1), .int (x2)] M0 r M1 := by
  refine mI.of (cc := cX7_raw) (nL := 4) (ret := (some .int)) (own := RX7) (lv := [(0, .ref (ga G (96))), (1, .int (x1)), (2, .int (x2))]) (plainFor_of_name (by decide +kernel)) rfl rfl (Nat.le_of_ble_eq_true rfl) rfl ?_
  intro p e s m args below meth c hC hr hlk
  unfold fX7_raw at hf
  refine wa_iload_n hC dX7_raw_0 rfl 1 rfl ?_
  obtain ⟨v1, h1, hf⟩ := bd hf
  refine wa_calli (rest := []) (wr_S hC (kX7_isCell l G h1) (va_cwS 1 hC.1.2.2.2.2 gX7_raw_X7_isCell rfl rfl rfl (by decide +kernel) ⟨Nat.le_of_ble_eq_true rfl, Nat.le_of_ble_eq_true rfl⟩) rfl rfl (Nat.le_of_ble_eq_true rfl) dX7_raw_1) ?_
  refine wa_if_eq hC 16 dX7_raw_4 (by decide) (fun c2 => ?_) (fun c2 => ?_)
  · have hf := ite_t hf c2
    refine wa_ldc hC mbX7_raw_55 dX7_raw_16 ?_
    exact wa_iret hC hlk hr (congrArg Prod.fst (so_inj hf)) (congrArg Prod.snd (so_inj hf)) dX7_raw_18
  · have hf := ite_f hf c2
    refine wa_aload_n hC dX7_raw_7 rfl 0 rfl ?_
    refine wa_iload_n hC dX7_raw_8 rfl 1 rfl ?_
    refine wa_iload_n hC dX7_raw_9 rfl 2 rfl ?_
    obtain ⟨v3, h3, hf⟩ := bd hf
    refine wa_calli (rest := []) (wr_V hC (kX7_isReading l G h3) (cwV 2 hC.1.2.2.2.2 gX7_raw_X7_isReading rfl rfl rfl (by decide +kernel) ⟨Nat.le_of_ble_eq_true rfl, Nat.le_of_ble_eq_true rfl⟩) (show kd 96 = 7 from rfl) (by decide) (ce7 (show kd 96 = 7 from rfl)) rfl rfl rfl rfl (Nat.le_of_ble_eq_true rfl) dX7_raw_10) ?_
    refine wa_if_ne hC 19 dX7_raw_13 (by decide) (fun c4 => ?_) (fun c4 => ?_)
    · have hf := ite_f hf c4
      refine wa_iload_n hC dX7_raw_19 rfl 1 rfl ?_
      refine wa_iconst (v := 1) hC dX7_raw_20 (by decide) ?_
      refine wa_iadd hC dX7_raw_21 ?_
      refine wa_istore_n (lv' := [(3, .int _), (0, .ref _), (1, .int _), (2, .int _)]) hC dX7_raw_22 rfl (by decide) rfl ?_
      refine wa_aload_n hC dX7_raw_23 rfl 1 rfl ?_
      refine wa_aload_n hC dX7_raw_24 rfl 1 rfl ?_
      refine wa_iload_n hC dX7_raw_25 rfl 0 rfl ?_
      refine wa_iconst (v := 0) hC dX7_raw_26 (by decide) ?_
      refine wa_iload_n hC dX7_raw_27 rfl 3 rfl ?_
      obtain ⟨v5, h5, hf⟩ := bd hf
      refine wa_calli (rest := [_]) (wr_V hC (kX7_of l G h5) (cwV 3 hC.1.2.2.2.2 gX7_raw_X7_of rfl rfl rfl (by decide +kernel) ⟨Nat.le_of_ble_eq_true rfl, Nat.le_of_ble_eq_true rfl⟩) (show kd 96 = 7 from rfl) (by decide) (ce7 (show kd 96 = 7 from rfl)) rfl rfl rfl rfl (Nat.le_of_ble_eq_true rfl) dX7_raw_28) ?_
      obtain ⟨⟨v6, M6⟩, h6, hf⟩ := bd hf
      dsimp only at hf
      refine wa_calli (rest := []) (wr_V hC (kX7_hasBase l G h6) (cwV 1 hC.1.2.2.2.2 gX7_raw_X7_hasBase rfl rfl rfl (by decide +kernel) ⟨Nat.le_of_ble_eq_true rfl, Nat.le_of_ble_eq_true rfl⟩) (show kd 96 = 7 from rfl) (by decide) (ce7 (show kd 96 = 7 from rfl)) rfl rfl rfl rfl (Nat.le_of_ble_eq_true rfl) dX7_raw_31) ?_
      refine wa_if_eq hC 60 dX7_raw_34 (by decide) (fun c7 => ?_) (fun c7 => ?_)
      · have hf := ite_t hf c7
        refine wa_ldc hC mbX7_raw_92 dX7_raw_60 ?_
        exact wa_iret hC hlk hr (congrArg Prod.fst (so_inj hf)) (congrArg Prod.snd (so_inj hf)) dX7_raw_62
      · have hf := ite_f hf c7
        refine wa_aload_n hC dX7_raw_37 rfl 1 rfl ?_
        refine wa_aload_n hC dX7_raw_38 rfl 1 rfl ?_
        refine wa_iload_n hC dX7_raw_39 rfl 0 rfl ?_
        refine wa_bipush (v := 20) hC dX7_raw_40 (by decide) ?_
        refine wa_iload_n hC dX7_raw_42 rfl 3 rfl ?_
        obtain ⟨v8, h8, hf⟩ := bd hf
        refine wa_calli (rest := [_]) (wr_V hC (kX7_of l G h8) (cwV 3 hC.1.2.2.2.2 gX7_raw_X7_of rfl rfl rfl (by decide +kernel) ⟨Nat.le_of_ble_eq_true rfl, Nat.le_of_ble_eq_true rfl⟩) (show kd 96 = 7 from rfl) (by decide) (ce7 (show kd 96 = 7 from rfl)) rfl rfl rfl rfl (Nat.le_of_ble_eq_true rfl) dX7_raw_43) ?_
        refine wa_aload_n hC dX7_raw_46 rfl 1 rfl ?_
        refine wa_iload_n hC dX7_raw_47 rfl 0 rfl ?_
        refine wa_bipush (v := 40) hC dX7_raw_48 (by decide) ?_
        refine wa_iload_n hC dX7_raw_50 rfl 3 rfl ?_
        obtain ⟨v9, h9, hf⟩ := bd hf
        refine wa_calli (rest := [_, _]) (wr_V hC (kX7_of l G h9) (cwV 3 hC.1.2.2.2.2 gX7_raw_X7_of rfl rfl rfl (by decide +kernel) ⟨Nat.le_of_ble_eq_true rfl, Nat.le_of_ble_eq_true rfl⟩) (show kd 96 = 7 from rfl) (by decide) (ce7 (show kd 96 = 7 from rfl)) rfl rfl rfl rfl (Nat.le_of_ble_eq_true rfl) dX7_raw_51) ?_
        obtain ⟨v10, h10, hf⟩ := bd hf
        refine wa_calli (rest := []) (wr_V hC (kX7_rawOf l G h10) (cwV 2 hC.1.2.2.2.2 gX7_raw_X7_rawOf rfl rfl rfl (by decide +kernel) ⟨Nat.le_of_ble_eq_true rfl, Nat.le_of_ble_eq_true rfl⟩) (show kd 96 = 7 from rfl) (by decide) (ce7 (show kd 96 = 7 from rfl)) rfl rfl rfl rfl (Nat.le_of_ble_eq_true rfl) dX7_raw_54) ?_
        refine wa_goto hC 62 dX7_raw_57 (by decide) ?_
        exact wa_iret hC hlk hr (congrArg Prod.fst (so_inj hf)) (congrArg Prod.snd (so_inj hf)) dX7_raw_62
    · have hf := ite_t hf c4
      refine wa_ldc hC mbX7_raw_55 dX7_raw_16 ?_
      exact wa_iret hC hlk hr (congrArg Prod.fst (so_inj hf)) (congrArg Prod.snd (so_inj hf)) dX7_raw_18

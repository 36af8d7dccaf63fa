abbrev rmX4_append : Room := { frames := 1, cells := 0, slots := 0, locals := 22 }
theorem fiX4_append_4 : ∀ w ∈ u_ws RX4 TX4 11, w ∈ wsX4_append := by decide +kernel
theorem mbX4_append_19 : Cond.fieldLink RX4 19 "BaroRuns$Text" "length" "I" ∈ wsX4_append := by decide +kernel
theorem mbX4_append_9 : Cond.fieldLink RX4 9 "BaroRuns$Text" "characters" "[I" ∈ wsX4_append := by decide +kernel
theorem mbX4_append_s22 : Cond.static yX6_put ∈ wsX4_append := by decide +kernel
theorem mbX4_append_i22 : Cond.initialized RX6 ∈ wsX4_append := by decide +kernel
set_option maxHeartbeats 4000000 in
set_option maxRecDepth 100000 in
theorem kX4_append (l : Launch) (G : wG) {i : Nat} (hi : kd i = 4) {x1 : Int32} {M0 M1 : wM} (hf : fX4_append i x1 M0 = some M1) : mV l yX4_append wsX4_append rmX4_append G [.ref (ga G (i)), .int (x1)] M0 M1 := by
  refine mV.of (cc := cX4_append) (nL := 2) (ret := none) (own := RX4) (lv := [(0, .ref (ga G (i))), (1, .int (x1))]) (plainFor_of_name (by decide +kernel)) rfl rfl (Nat.le_of_ble_eq_true rfl) rfl ?_
  intro p e s m args below meth c hC hr hlk
  unfold fX4_append at hf
  refine wa_aload_n hC dX4_append_0 rfl 0 rfl ?_
  refine rg4_1 hC fiX4_append_4 hi mbX4_append_19 dX4_append_1 ?_
  refine wa_bipush (v := 100) hC dX4_append_4 (by decide) ?_
  refine wa_icmp_ge hC 31 dX4_append_6 (by decide) (fun c1 => ?_) (fun c1 => ?_)
  · have hf := ite_t hf c1
    exact wa_vret hC hlk hr (so_inj hf) dX4_append_31
  · have hf := ite_f hf c1
    refine wa_aload_n hC dX4_append_9 rfl 0 rfl ?_
    refine rg4_0 hC fiX4_append_4 hi mbX4_append_9 dX4_append_10 ?_
    refine wa_aload_n hC dX4_append_13 rfl 0 rfl ?_
    refine rg4_1 hC fiX4_append_4 hi mbX4_append_19 dX4_append_14 ?_
    refine wa_iload_n hC dX4_append_17 rfl 1 rfl ?_
    obtain ⟨M2, h2, hf⟩ := bd hf
    refine wa_callv (rest := []) (wr_SN hC (kX6_put l G (kf4_0 hi) h2) ⟨va_cnB 3 hC.1.2.2.2.2 gX4_append_X6_put_n22 rfl rfl rfl (nwm_Text_22 hC.2.2.2) (hC.1.2.2.2.2 _ mbX4_append_i22) (by decide +kernel) ⟨Nat.le_of_ble_eq_true rfl, Nat.le_of_ble_eq_true rfl⟩, hC.1.2.2.2.2 _ mbX4_append_s22, trivial⟩ rfl rfl (Nat.le_of_ble_eq_true rfl) dX4_append_18) ?_
    refine wa_aload_n hC dX4_append_21 rfl 0 rfl ?_
    refine wa_dup hC dX4_append_22 rfl ?_
    refine rg4_1 hC fiX4_append_4 hi mbX4_append_19 dX4_append_23 ?_
    refine wa_iconst (v := 1) hC dX4_append_26 (by decide) ?_
    refine wa_iadd hC dX4_append_27 ?_
    refine rp4_1 hC fiX4_append_4 hi mbX4_append_19 dX4_append_28 ?_
    exact wa_vret hC hlk hr (so_inj hf) dX4_append_31
abbrev rmX4_skip : Room := { frames := 1, cells := 0, slots := 0, locals := 21 }
theorem fiX4_skip_4 : ∀ w ∈ u_ws RX4 TX4 11, w ∈ wsX4_skip := by decide +kernel
theorem mbX4_skip_26 : Cond.fieldLink RX4 26 "BaroRuns$Text" "position" "I" ∈ wsX4_skip := by decide +kernel
theorem mbX4_skip_19 : Cond.fieldLink RX4 19 "BaroRuns$Text" "length" "I" ∈ wsX4_skip := by decide +kernel
theorem mbX4_skip_9 : Cond.fieldLink RX4 9 "BaroRuns$Text" "characters" "[I" ∈ wsX4_skip := by decide +kernel
theorem mbX4_skip_s92 : Cond.static yX6_at ∈ wsX4_skip := by decide +kernel
theorem mbX4_skip_i92 : Cond.initialized RX6 ∈ wsX4_skip := by decide +kernel
set_option maxHeartbeats 4000000 in
set_option maxRecDepth 100000 in
theorem kX4_skip (l : Launch) (G : wG) {i : Nat} (hi : kd i = 4) {x1 : Int32} {M0 M1 : wM} {b : Bool} (hf : fX4_skip i x1 M0 = some (b, M1)) : mI l yX4_skip wsX4_skip rmX4_skip G [.ref (ga G (i)), .int (x1)] M0 (b2 b) M1 := by
  refine mI.of (cc := cX4_skip) (nL := 2) (ret := (some .boolean)) (own := RX4) (lv := [(0, .ref (ga G (i))), (1, .int (x1))]) (plainFor_of_name (by decide +kernel)) rfl rfl (Nat.le_of_ble_eq_true rfl) rfl ?_
  intro p e s m args below meth c hC hr hlk
  unfold fX4_skip at hf
  refine wa_aload_n hC dX4_skip_0 rfl 0 rfl ?_
  refine rg4_2 hC fiX4_skip_4 hi mbX4_skip_26 dX4_skip_1 ?_
  refine wa_aload_n hC dX4_skip_4 rfl 0 rfl ?_
  refine rg4_1 hC fiX4_skip_4 hi mbX4_skip_19 dX4_skip_5 ?_
  refine wa_icmp_ge hC 26 dX4_skip_8 (by decide) (fun c1 => ?_) (fun c1 => ?_)
  · have hf := ite_t hf c1
    refine wa_iconst (v := 0) hC dX4_skip_26 (by decide) ?_
    exact wa_zret hC hlk hr (congrArg b2 (congrArg Prod.fst (so_inj hf))) (congrArg Prod.snd (so_inj hf)) dX4_skip_27
  · have hf := ite_f hf c1
    refine wa_aload_n hC dX4_skip_11 rfl 0 rfl ?_
    refine rg4_0 hC fiX4_skip_4 hi mbX4_skip_9 dX4_skip_12 ?_
    refine wa_aload_n hC dX4_skip_15 rfl 0 rfl ?_
    refine rg4_2 hC fiX4_skip_4 hi mbX4_skip_26 dX4_skip_16 ?_
    obtain ⟨v2, h2, hf⟩ := bd hf
    refine wa_calli (rest := []) (wr_SN hC (kX6_at l G (kf4_0 hi) h2) ⟨va_cnB 2 hC.1.2.2.2.2 gX4_skip_X6_at_n92 rfl rfl rfl (nwm_Text_92 hC.2.2.2) (hC.1.2.2.2.2 _ mbX4_skip_i92) (by decide +kernel) ⟨Nat.le_of_ble_eq_true rfl, Nat.le_of_ble_eq_true rfl⟩, hC.1.2.2.2.2 _ mbX4_skip_s92, trivial⟩ rfl rfl (Nat.le_of_ble_eq_true rfl) dX4_skip_19) ?_
    refine wa_iload_n hC dX4_skip_22 rfl 1 rfl ?_
    refine wa_icmp_eq hC 28 dX4_skip_23 (by decide) (fun c3 => ?_) (fun c3 => ?_)
    · have hf := ite_t hf c3
      refine wa_aload_n hC dX4_skip_28 rfl 0 rfl ?_
      refine wa_dup hC dX4_skip_29 rfl ?_
      refine rg4_2 hC fiX4_skip_4 hi mbX4_skip_26 dX4_skip_30 ?_
      refine wa_iconst (v := 1) hC dX4_skip_33 (by decide) ?_
      refine wa_iadd hC dX4_skip_34 ?_
      refine rp4_2 hC fiX4_skip_4 hi mbX4_skip_26 dX4_skip_35 ?_
      refine wa_iconst (v := 1) hC dX4_skip_38 (by decide) ?_
      exact wa_zret hC hlk hr (congrArg b2 (congrArg Prod.fst (so_inj hf))) (congrArg Prod.snd (so_inj hf)) dX4_skip_39
    · have hf := ite_f hf c3
      refine wa_iconst (v := 0) hC dX4_skip_26 (by decide) ?_
      exact wa_zret hC hlk hr (congrArg b2 (congrArg Prod.fst (so_inj hf))) (congrArg Prod.snd (so_inj hf)) dX4_skip_27
abbrev rmX6_within : Room := { frames := 0, cells := 0, slots := 0, locals := 0 }
set_option maxHeartbeats 4000000 in
set_option maxRecDepth 100000 in
theorem kX6_within (l : Launch) (G : wG) {x0 : Int32} {x1 : Int32} {x2 : Int32} {M0 : wM} {b : Bool} (hf : fX6_within x0 x1 x2 M0 = some b) : mI l yX6_within wsX6_within rmX6_within G [.int (x0), .int (x1), .int (x2)] M0 (b2 b) M0 := by
  refine mI.of (cc := cX6_within) (nL := 3) (ret := (some .boolean)) (own := RX6) (lv := [(0, .int (x0)), (1, .int (x1)), (2, .int (x2))]) (plainFor_of_name (by decide +kernel)) rfl rfl (Nat.le_of_ble_eq_true rfl) rfl ?_
  intro p e s m args below meth c hC hr hlk
  unfold fX6_within at hf
  refine wa_iload_n hC dX6_within_0 rfl 0 rfl ?_
  refine wa_iload_n hC dX6_within_1 rfl 1 rfl ?_
  refine wa_icmp_lt hC 14 dX6_within_2 (by decide) (fun c1 => ?_) (fun c1 => ?_)
  · have hf := ite_t hf c1
    refine wa_iconst (v := 0) hC dX6_within_14 (by decide) ?_
    exact wa_zret hC hlk hr (congrArg b2 (so_inj hf)) rfl dX6_within_15
  · have hf := ite_f hf c1
    refine wa_iload_n hC dX6_within_5 rfl 0 rfl ?_
    refine wa_iload_n hC dX6_within_6 rfl 2 rfl ?_
    refine wa_icmp_gt hC 14 dX6_within_7 (by decide) (fun c2 => ?_) (fun c2 => ?_)
    · have hf := ite_t hf c2
      refine wa_iconst (v := 0) hC dX6_within_14 (by decide) ?_
      exact wa_zret hC hlk hr (congrArg b2 (so_inj hf)) rfl dX6_within_15
    · have hf := ite_f hf c2
      refine wa_iconst (v := 1) hC dX6_within_10 (by decide) ?_
      refine wa_goto hC 15 dX6_within_11 (by decide) ?_
      exact wa_zret hC hlk hr (congrArg b2 (so_inj hf)) rfl dX6_within_15
abbrev rmX4_takeNumber : Room := { frames := 1, cells := 0, slots := 0, locals := 22 }
theorem fiX4_takeNumber_4 : ∀ w ∈ u_ws RX4 TX4 11, w ∈ wsX4_takeNumber := by decide +kernel
theorem mbX4_takeNumber_26 : Cond.fieldLink RX4 26 "BaroRuns$Text" "position" "I" ∈ wsX4_takeNumber := by decide +kernel
theorem mbX4_takeNumber_19 : Cond.fieldLink RX4 19 "BaroRuns$Text" "length" "I" ∈ wsX4_takeNumber := by decide +kernel
theorem mbX4_takeNumber_9 : Cond.fieldLink RX4 9 "BaroRuns$Text" "characters" "[I" ∈ wsX4_takeNumber := by decide +kernel
theorem mbX4_takeNumber_s92 : Cond.static yX6_at ∈ wsX4_takeNumber := by decide +kernel
theorem mbX4_takeNumber_i92 : Cond.initialized RX6 ∈ wsX4_takeNumber := by decide +kernel
theorem mbX4_takeNumber_s96 : Cond.static yX6_within ∈ wsX4_takeNumber := by decide +kernel
theorem mbX4_takeNumber_i96 : Cond.initialized RX6 ∈ wsX4_takeNumber := by decide +kernel
set_option maxHeartbeats 4000000 in
set_option maxRecDepth 100000 in
theorem kX4_takeNumber (l : Launch) (G : wG) {i : Nat} (hi : kd i = 4) {x1 : Int32} {M0 M1 : wM} {r : Int32} (hf : fX4_takeNumber i x1 M0 = some (r, M1)) : mI l yX4_takeNumber wsX4_takeNumber rmX4_takeNumber G [.ref (ga G (i)), .int (x1)] M0 r M1 := by
  refine mI.of (cc := cX4_takeNumber) (nL := 5) (ret := (some .int)) (own := RX4) (lv := [(0, .ref (ga G (i))), (1, .int (x1))]) (plainFor_of_name (by decide +kernel)) rfl rfl (Nat.le_of_ble_eq_true rfl) rfl ?_
  intro p e s m args below meth c hC hr hlk
  have hJ65 : ∀ (bk4 : Int32 → Int32 → wM → Option (Int32 × wM)) (hbk4 : (∀ (x2 : Int32) (x3 : Int32) (M0 : wM), bk4 x2 x3 M0 = some (r, M1) → wAt p l e rmX4_takeNumber s m args below meth c (qI below args s G r M1) 5 G M0 4 [(0, .ref (ga G (i))), (1, .int (x1)), (2, .int (x2)), (3, .int (x3))] [])) (x3 : Int32) (s0 : Int32) (M0 : wM), fX4_takeNumber_J65 i x1 bk4 x3 s0 M0 = some (r, M1) → wAt p l e rmX4_takeNumber s m args below meth c (qI below args s G r M1) 5 G M0 65 [(0, .ref (ga G (i))), (1, .int (x1)), (3, .int (x3))] [.int (s0)] := by
    intro bk4 hbk4 x3 s0 M0 hf
    unfold fX4_takeNumber_J65 at hf
    refine wa_istore_n (lv' := [(2, .int _), (0, .ref _), (1, .int _), (3, .int _)]) hC dX4_takeNumber_65 rfl (by decide) rfl ?_
    refine wa_aload_n hC dX4_takeNumber_66 rfl 1 rfl ?_
    refine wa_dup hC dX4_takeNumber_67 rfl ?_
    refine rg4_2 hC fiX4_takeNumber_4 hi mbX4_takeNumber_26 dX4_takeNumber_68 ?_
    refine wa_iconst (v := 1) hC dX4_takeNumber_71 (by decide) ?_
    refine wa_iadd hC dX4_takeNumber_72 ?_
    refine rp4_2 hC fiX4_takeNumber_4 hi mbX4_takeNumber_26 dX4_takeNumber_73 ?_
    refine wa_iinc (v := _ + 1) (lv' := [(3, .int _), (2, .int _), (0, .ref _), (1, .int _)]) hC dX4_takeNumber_76 (t := 3) rfl rfl (by decide) rfl ?_
    refine wa_goto hC 4 dX4_takeNumber_79 (by decide) ?_
    exact wa_sub [2, 3, 1, 0] rfl (hbk4 _ _ _ hf)
  have hB4 : ∀ (bk4 : Int32 → Int32 → wM → Option (Int32 × wM)) (hbk4 : (∀ (x2 : Int32) (x3 : Int32) (M0 : wM), bk4 x2 x3 M0 = some (r, M1) → wAt p l e rmX4_takeNumber s m args below meth c (qI below args s G r M1) 5 G M0 4 [(0, .ref (ga G (i))), (1, .int (x1)), (2, .int (x2)), (3, .int (x3))] [])) (x2 : Int32) (x3 : Int32) (M0 : wM), fX4_takeNumber_B4 i x1 bk4 x2 x3 M0 = some (r, M1) → wAt p l e rmX4_takeNumber s m args below meth c (qI below args s G r M1) 5 G M0 4 [(0, .ref (ga G (i))), (1, .int (x1)), (2, .int (x2)), (3, .int (x3))] [] := by
    intro bk4 hbk4 x2 x3 M0 hf
    unfold fX4_takeNumber_B4 at hf
    refine wa_iload_n hC dX4_takeNumber_4 rfl 3 rfl ?_
    refine wa_iload_n hC dX4_takeNumber_5 rfl 1 rfl ?_
    refine wa_icmp_ge hC 82 dX4_takeNumber_6 (by decide) (fun c1 => ?_) (fun c1 => ?_)
    · have hf := ite_t hf c1
      refine wa_iload_n hC dX4_takeNumber_82 rfl 2 rfl ?_
      exact wa_iret hC hlk hr (congrArg Prod.fst (so_inj hf)) (congrArg Prod.snd (so_inj hf)) dX4_takeNumber_83
    · have hf := ite_f hf c1
      refine wa_aload_n hC dX4_takeNumber_9 rfl 0 rfl ?_
      refine rg4_2 hC fiX4_takeNumber_4 hi mbX4_takeNumber_26 dX4_takeNumber_10 ?_
      refine wa_aload_n hC dX4_takeNumber_13 rfl 0 rfl ?_
      refine rg4_1 hC fiX4_takeNumber_4 hi mbX4_takeNumber_19 dX4_takeNumber_14 ?_
      refine wa_icmp_ge hC 82 dX4_takeNumber_17 (by decide) (fun c2 => ?_) (fun c2 => ?_)
      · have hf := ite_t hf c2
        refine wa_iload_n hC dX4_takeNumber_82 rfl 2 rfl ?_
        exact wa_iret hC hlk hr (congrArg Prod.fst (so_inj hf)) (congrArg Prod.snd (so_inj hf)) dX4_takeNumber_83
      · have hf := ite_f hf c2
        refine wa_aload_n hC dX4_takeNumber_20 rfl 0 rfl ?_
        refine rg4_0 hC fiX4_takeNumber_4 hi mbX4_takeNumber_9 dX4_takeNumber_21 ?_
        refine wa_aload_n hC dX4_takeNumber_24 rfl 0 rfl ?_
        refine rg4_2 hC fiX4_takeNumber_4 hi mbX4_takeNumber_26 dX4_takeNumber_25 ?_
        obtain ⟨v3, h3, hf⟩ := bd hf
        refine wa_calli (rest := []) (wr_SN hC (kX6_at l G (kf4_0 hi) h3) ⟨va_cnB 2 hC.1.2.2.2.2 gX4_takeNumber_X6_at_n92 rfl rfl rfl (nwm_Text_92 hC.2.2.2) (hC.1.2.2.2.2 _ mbX4_takeNumber_i92) (by decide +kernel) ⟨Nat.le_of_ble_eq_true rfl, Nat.le_of_ble_eq_true rfl⟩, hC.1.2.2.2.2 _ mbX4_takeNumber_s92, trivial⟩ rfl rfl (Nat.le_of_ble_eq_true rfl) dX4_takeNumber_28) ?_
        refine wa_bipush (v := 48) hC dX4_takeNumber_31 (by decide) ?_
        refine wa_isub hC dX4_takeNumber_33 ?_
        refine wa_istore (lv' := [(4, .int _), (0, .ref _), (1, .int _), (2, .int _), (3, .int _)]) hC dX4_takeNumber_34 (by decide) rfl ?_
        refine wa_iload hC dX4_takeNumber_36 0 rfl ?_
        refine wa_iconst (v := 0) hC dX4_takeNumber_38 (by decide) ?_
        refine wa_bipush (v := 9) hC dX4_takeNumber_39 (by decide) ?_
        obtain ⟨v4, h4, hf⟩ := bd hf
        refine wa_calli (rest := []) (wr_SN hC (kX6_within l G h4) ⟨va_cnB 3 hC.1.2.2.2.2 gX4_takeNumber_X6_within_n96 rfl rfl rfl (nwm_Text_96 hC.2.2.2) (hC.1.2.2.2.2 _ mbX4_takeNumber_i96) (by decide +kernel) ⟨Nat.le_of_ble_eq_true rfl, Nat.le_of_ble_eq_true rfl⟩, hC.1.2.2.2.2 _ mbX4_takeNumber_s96, trivial⟩ rfl rfl (Nat.le_of_ble_eq_true rfl) dX4_takeNumber_41) ?_
        refine wa_if_ne hC 49 dX4_takeNumber_44 (by decide) (fun c5 => ?_) (fun c5 => ?_)
        · have hf := ite_f hf c5
          refine wa_iload_n hC dX4_takeNumber_49 rfl 4 rfl ?_
          refine wa_if_ne hC 58 dX4_takeNumber_50 (by decide) (fun c6 => ?_) (fun c6 => ?_)
          · have hf := ite_f hf c6
            refine wa_iload_n hC dX4_takeNumber_58 rfl 3 rfl ?_
            refine wa_bipush (v := 10) hC dX4_takeNumber_59 (by decide) ?_
            refine wa_imul hC dX4_takeNumber_61 ?_
            refine wa_iload hC dX4_takeNumber_62 0 rfl ?_
            refine wa_iadd hC dX4_takeNumber_64 ?_
            exact wa_sub [1, 2, 4] rfl (hJ65 bk4 hbk4 _ _ _ hf)
          · have hf := ite_t hf c6
            refine wa_iload hC dX4_takeNumber_53 0 rfl ?_
            refine wa_goto hC 65 dX4_takeNumber_55 (by decide) ?_
            exact wa_sub [1, 2, 4] rfl (hJ65 bk4 hbk4 _ _ _ hf)
        · have hf := ite_t hf c5
          refine wa_iload_n hC dX4_takeNumber_47 rfl 3 rfl ?_
          exact wa_iret hC hlk hr (congrArg Prod.fst (so_inj hf)) (congrArg Prod.snd (so_inj hf)) dX4_takeNumber_48
  have hL4 : ∀ (n : Nat) (x2 : Int32) (x3 : Int32) (M0 : wM), fX4_takeNumber_L4 i x1  n x2 x3 M0 = some (r, M1) → wAt p l e rmX4_takeNumber s m args below meth c (qI below args s G r M1) 5 G M0 4 [(0, .ref (ga G (i))), (1, .int (x1)), (2, .int (x2)), (3, .int (x3))] [] := by
    intro  n
    induction n with
    | zero =>
      intro x2 x3 M0 hf
      exact absurd hf (by simp [fX4_takeNumber_L4])
    | succ n ih =>
      intro x2 x3 M0 hf
      exact hB4  (fX4_takeNumber_L4 i x1  n) ih x2 x3 M0 hf
  unfold fX4_takeNumber at hf
  refine wa_iconst (v := -1) hC dX4_takeNumber_0 (by decide) ?_
  refine wa_istore_n (lv' := [(2, .int _), (0, .ref _), (1, .int _)]) hC dX4_takeNumber_1 rfl (by decide) rfl ?_
  refine wa_iconst (v := 0) hC dX4_takeNumber_2 (by decide) ?_
  refine wa_istore_n (lv' := [(3, .int _), (2, .int _), (0, .ref _), (1, .int _)]) hC dX4_takeNumber_3 rfl (by decide) rfl ?_
  exact wa_sub [2, 3, 1, 0] rfl (hL4 FU _ _ _ hf)
abbrev rmX4_takePlace : Room := { frames := 2, cells := 0, slots := 0, locals := 46 }
theorem fiX4_takePlace_4 : ∀ w ∈ u_ws RX4 TX4 11, w ∈ wsX4_takePlace := by decide +kernel
theorem mbX4_takePlace_36 : Cond.fieldLink RX4 36 "BaroRuns$Text" "cell" "I" ∈ wsX4_takePlace := by decide +kernel
theorem mbX4_takePlace_52 : Cond.fieldLink RX4 52 "BaroRuns$Text" "point" "I" ∈ wsX4_takePlace := by decide +kernel
set_option maxHeartbeats 4000000 in
set_option maxRecDepth 100000 in
theorem kX4_takePlace (l : Launch) (G : wG) {i : Nat} (hi : kd i = 4) {M0 M1 : wM} {b : Bool} (hf : fX4_takePlace i M0 = some (b, M1)) : mI l yX4_takePlace wsX4_takePlace rmX4_takePlace G [.ref (ga G (i))] M0 (b2 b) M1 := by
  refine mI.of (cc := cX4_takePlace) (nL := 1) (ret := (some .boolean)) (own := RX4) (lv := [(0, .ref (ga G (i)))]) (plainFor_of_name (by decide +kernel)) rfl rfl (Nat.le_of_ble_eq_true rfl) rfl ?_
  intro p e s m args below meth c hC hr hlk
  unfold fX4_takePlace at hf
  refine wa_aload_n hC dX4_takePlace_0 rfl 0 rfl ?_
  refine wa_iconst (v := -1) hC dX4_takePlace_1 (by decide) ?_
  refine rp4_3 hC fiX4_takePlace_4 hi mbX4_takePlace_36 dX4_takePlace_2 ?_
  refine wa_aload_n hC dX4_takePlace_5 rfl 0 rfl ?_
  refine wa_iconst (v := 0) hC dX4_takePlace_6 (by decide) ?_
  refine rp4_4 hC fiX4_takePlace_4 hi mbX4_takePlace_52 dX4_takePlace_7 ?_
  refine wa_aload_n hC dX4_takePlace_10 rfl 0 rfl ?_
  refine wa_bipush (v := 98) hC dX4_takePlace_11 (by decide) ?_
  obtain ⟨⟨v1, M1⟩, h1, hf⟩ := bd hf
  dsimp only at hf
  refine wa_calli (rest := []) (wr_V hC (kX4_skip l G hi h1) (cwV 1 hC.1.2.2.2.2 gX4_takePlace_X4_skip rfl rfl rfl (by decide +kernel) ⟨Nat.le_of_ble_eq_true rfl, Nat.le_of_ble_eq_true rfl⟩) hi (by decide) (ce4 hi) rfl rfl rfl rfl (Nat.le_of_ble_eq_true rfl) dX4_takePlace_13) ?_
  refine wa_if_eq hC 21 dX4_takePlace_16 (by decide) (fun c2 => ?_) (fun c2 => ?_)
  · have hf := ite_t hf c2
    refine wa_aload_n hC dX4_takePlace_21 rfl 0 rfl ?_
    refine wa_bipush (v := 99) hC dX4_takePlace_22 (by decide) ?_
    obtain ⟨⟨v3, M3⟩, h3, hf⟩ := bd hf
    dsimp only at hf
    refine wa_calli (rest := []) (wr_V hC (kX4_skip l G hi h3) (cwV 1 hC.1.2.2.2.2 gX4_takePlace_X4_skip rfl rfl rfl (by decide +kernel) ⟨Nat.le_of_ble_eq_true rfl, Nat.le_of_ble_eq_true rfl⟩) hi (by decide) (ce4 hi) rfl rfl rfl rfl (Nat.le_of_ble_eq_true rfl) dX4_takePlace_24) ?_
    refine wa_if_ne hC 32 dX4_takePlace_27 (by decide) (fun c4 => ?_) (fun c4 => ?_)
    · have hf := ite_f hf c4
      refine wa_aload_n hC dX4_takePlace_32 rfl 0 rfl ?_
      refine wa_aload_n hC dX4_takePlace_33 rfl 0 rfl ?_
      refine wa_iconst (v := 1) hC dX4_takePlace_34 (by decide) ?_
      obtain ⟨⟨v5, M5⟩, h5, hf⟩ := bd hf
      dsimp only at hf
      refine wa_calli (rest := [_]) (wr_V hC (kX4_takeNumber l G hi h5) (cwV 1 hC.1.2.2.2.2 gX4_takePlace_X4_takeNumber rfl rfl rfl (by decide +kernel) ⟨Nat.le_of_ble_eq_true rfl, Nat.le_of_ble_eq_true rfl⟩) hi (by decide) (ce4 hi) rfl rfl rfl rfl (Nat.le_of_ble_eq_true rfl) dX4_takePlace_35) ?_
      refine rp4_3 hC fiX4_takePlace_4 hi mbX4_takePlace_36 dX4_takePlace_38 ?_
      refine wa_aload_n hC dX4_takePlace_41 rfl 0 rfl ?_
      refine rg4_3 hC fiX4_takePlace_4 hi mbX4_takePlace_36 dX4_takePlace_42 ?_
      refine wa_iconst (v := -1) hC dX4_takePlace_45 (by decide) ?_
      refine wa_icmp_eq hC 58 dX4_takePlace_46 (by decide) (fun c6 => ?_) (fun c6 => ?_)
      · have hf := ite_t hf c6
        refine wa_iconst (v := 0) hC dX4_takePlace_58 (by decide) ?_
        exact wa_zret hC hlk hr (congrArg b2 (congrArg Prod.fst (so_inj hf))) (congrArg Prod.snd (so_inj hf)) dX4_takePlace_59
      · have hf := ite_f hf c6
        refine wa_aload_n hC dX4_takePlace_49 rfl 0 rfl ?_
        refine wa_bipush (v := 64) hC dX4_takePlace_50 (by decide) ?_
        obtain ⟨⟨v7, M7⟩, h7, hf⟩ := bd hf
        dsimp only at hf
        refine wa_calli (rest := []) (wr_V hC (kX4_skip l G hi h7) (cwV 1 hC.1.2.2.2.2 gX4_takePlace_X4_skip rfl rfl rfl (by decide +kernel) ⟨Nat.le_of_ble_eq_true rfl, Nat.le_of_ble_eq_true rfl⟩) hi (by decide) (ce4 hi) rfl rfl rfl rfl (Nat.le_of_ble_eq_true rfl) dX4_takePlace_52) ?_
        refine wa_if_ne hC 60 dX4_takePlace_55 (by decide) (fun c8 => ?_) (fun c8 => ?_)
        · have hf := ite_f hf c8
          refine wa_aload_n hC dX4_takePlace_60 rfl 0 rfl ?_
          refine wa_aload_n hC dX4_takePlace_61 rfl 0 rfl ?_
          refine wa_iconst (v := 1) hC dX4_takePlace_62 (by decide) ?_
          obtain ⟨⟨v9, M9⟩, h9, hf⟩ := bd hf
          dsimp only at hf
          refine wa_calli (rest := [_]) (wr_V hC (kX4_takeNumber l G hi h9) (cwV 1 hC.1.2.2.2.2 gX4_takePlace_X4_takeNumber rfl rfl rfl (by decide +kernel) ⟨Nat.le_of_ble_eq_true rfl, Nat.le_of_ble_eq_true rfl⟩) hi (by decide) (ce4 hi) rfl rfl rfl rfl (Nat.le_of_ble_eq_true rfl) dX4_takePlace_63) ?_
          refine rp4_4 hC fiX4_takePlace_4 hi mbX4_takePlace_52 dX4_takePlace_66 ?_
          refine wa_aload_n hC dX4_takePlace_69 rfl 0 rfl ?_
          refine rg4_4 hC fiX4_takePlace_4 hi mbX4_takePlace_52 dX4_takePlace_70 ?_
          refine wa_iconst (v := -1) hC dX4_takePlace_73 (by decide) ?_
          refine wa_icmp_eq hC 81 dX4_takePlace_74 (by decide) (fun c10 => ?_) (fun c10 => ?_)
          · have hf := ite_t hf c10
            refine wa_iconst (v := 0) hC dX4_takePlace_81 (by decide) ?_
            exact wa_zret hC hlk hr (congrArg b2 (congrArg Prod.fst (so_inj hf))) (congrArg Prod.snd (so_inj hf)) dX4_takePlace_82
          · have hf := ite_f hf c10
            refine wa_iconst (v := 1) hC dX4_takePlace_77 (by decide) ?_
            refine wa_goto hC 82 dX4_takePlace_78 (by decide) ?_
            exact wa_zret hC hlk hr (congrArg b2 (congrArg Prod.fst (so_inj hf))) (congrArg Prod.snd (so_inj hf)) dX4_takePlace_82
        · have hf := ite_t hf c8
          refine wa_iconst (v := 0) hC dX4_takePlace_58 (by decide) ?_
          exact wa_zret hC hlk hr (congrArg b2 (congrArg Prod.fst (so_inj hf))) (congrArg Prod.snd (so_inj hf)) dX4_takePlace_59
    · have hf := ite_t hf c4
      refine wa_iconst (v := 0) hC dX4_takePlace_30 (by decide) ?_
      exact wa_zret hC hlk hr (congrArg b2 (congrArg Prod.fst (so_inj hf))) (congrArg Prod.snd (so_inj hf)) dX4_takePlace_31
  · have hf := ite_f hf c2
    refine wa_iconst (v := 1) hC dX4_takePlace_19 (by decide) ?_
    exact wa_zret hC hlk hr (congrArg b2 (congrArg Prod.fst (so_inj hf))) (congrArg Prod.snd (so_inj hf)) dX4_takePlace_20
abbrev rmX4_takeReading : Room := { frames := 3, cells := 0, slots := 0, locals := 66 }
theorem fiX4_takeReading_4 : ∀ w ∈ u_ws RX4 TX4 11, w ∈ wsX4_takeReading := by decide +kernel
theorem mbX4_takeReading_61 : Cond.fieldLink RX4 61 "BaroRuns$Text" "temperature" "I" ∈ wsX4_takeReading := by decide +kernel
theorem mbX4_takeReading_55 : Cond.fieldLink RX4 55 "BaroRuns$Text" "time" "I" ∈ wsX4_takeReading := by decide +kernel
theorem mbX4_takeReading_58 : Cond.fieldLink RX4 58 "BaroRuns$Text" "pressure" "I" ∈ wsX4_takeReading := by decide +kernel
set_option maxHeartbeats 4000000 in
set_option maxRecDepth 100000 in
theorem kX4_takeReading (l : Launch) (G : wG) {i : Nat} (hi : kd i = 4) {M0 M1 : wM} {b : Bool} (hf : fX4_takeReading i M0 = some (b, M1)) : mI l yX4_takeReading wsX4_takeReading rmX4_takeReading G [.ref (ga G (i))] M0 (b2 b) M1 := by
  refine mI.of (cc := cX4_takeReading) (nL := 3) (ret := (some .boolean)) (own := RX4) (lv := [(0, .ref (ga G (i)))]) (plainFor_of_name (by decide +kernel)) rfl rfl (Nat.le_of_ble_eq_true rfl) rfl ?_
  intro p e s m args below meth c hC hr hlk
  have hJ99 : ∀ (x2 : Int32) (s1 : Int32) (M0 : wM), fX4_takeReading_J99 i  x2 s1 M0 = some (b, M1) → wAt p l e rmX4_takeReading s m args below meth c (qI below args s G (b2 b) M1) 3 G M0 99 [(0, .ref (ga G (i))), (2, .int (x2))] [.int (s1), .ref (ga G (i))] := by
    intro  x2 s1 M0 hf
    unfold fX4_takeReading_J99 at hf
    refine rp4_7 hC fiX4_takeReading_4 hi mbX4_takeReading_61 dX4_takeReading_99 ?_
    refine wa_iload_n hC dX4_takeReading_102 rfl 1 rfl ?_
    refine wa_iconst (v := -1) hC dX4_takeReading_103 (by decide) ?_
    refine wa_icmp_eq hC 120 dX4_takeReading_104 (by decide) (fun c1 => ?_) (fun c1 => ?_)
    · have hf := ite_t hf c1
      refine wa_iconst (v := 0) hC dX4_takeReading_120 (by decide) ?_
      exact wa_zret hC hlk hr (congrArg b2 (congrArg Prod.fst (so_inj hf))) (congrArg Prod.snd (so_inj hf)) dX4_takeReading_121
    · have hf := ite_f hf c1
      refine wa_aload_n hC dX4_takeReading_107 rfl 0 rfl ?_
      refine wa_bipush (v := 59) hC dX4_takeReading_108 (by decide) ?_
      obtain ⟨⟨v2, M2⟩, h2, hf⟩ := bd hf
      dsimp only at hf
      refine wa_calli (rest := []) (wr_V hC (kX4_skip l G hi h2) (cwV 1 hC.1.2.2.2.2 gX4_takeReading_X4_skip rfl rfl rfl (by decide +kernel) ⟨Nat.le_of_ble_eq_true rfl, Nat.le_of_ble_eq_true rfl⟩) hi (by decide) (ce4 hi) rfl rfl rfl rfl (Nat.le_of_ble_eq_true rfl) dX4_takeReading_110) ?_
      refine wa_if_eq hC 120 dX4_takeReading_113 (by decide) (fun c3 => ?_) (fun c3 => ?_)
      · have hf := ite_t hf c3
        refine wa_iconst (v := 0) hC dX4_takeReading_120 (by decide) ?_
        exact wa_zret hC hlk hr (congrArg b2 (congrArg Prod.fst (so_inj hf))) (congrArg Prod.snd (so_inj hf)) dX4_takeReading_121
      · have hf := ite_f hf c3
        refine wa_iconst (v := 1) hC dX4_takeReading_116 (by decide) ?_
        refine wa_goto hC 121 dX4_takeReading_117 (by decide) ?_
        exact wa_zret hC hlk hr (congrArg b2 (congrArg Prod.fst (so_inj hf))) (congrArg Prod.snd (so_inj hf)) dX4_takeReading_121
  unfold fX4_takeReading at hf
  refine wa_aload_n hC dX4_takeReading_0 rfl 0 rfl ?_
  obtain ⟨⟨v4, M4⟩, h4, hf⟩ := bd hf
  dsimp only at hf
  refine wa_calli (rest := []) (wr_V hC (kX4_takePlace l G hi h4) (cwV 0 hC.1.2.2.2.2 gX4_takeReading_X4_takePlace rfl rfl rfl (by decide +kernel) ⟨Nat.le_of_ble_eq_true rfl, Nat.le_of_ble_eq_true rfl⟩) hi (by decide) (ce4 hi) rfl rfl rfl rfl (Nat.le_of_ble_eq_true rfl) dX4_takeReading_1) ?_
  refine wa_if_eq hC 16 dX4_takeReading_4 (by decide) (fun c5 => ?_) (fun c5 => ?_)
  · have hf := ite_t hf c5
    refine wa_iconst (v := 0) hC dX4_takeReading_16 (by decide) ?_
    exact wa_zret hC hlk hr (congrArg b2 (congrArg Prod.fst (so_inj hf))) (congrArg Prod.snd (so_inj hf)) dX4_takeReading_17
  · have hf := ite_f hf c5
    refine wa_aload_n hC dX4_takeReading_7 rfl 0 rfl ?_
    refine wa_bipush (v := 116) hC dX4_takeReading_8 (by decide) ?_
    obtain ⟨⟨v6, M6⟩, h6, hf⟩ := bd hf
    dsimp only at hf
    refine wa_calli (rest := []) (wr_V hC (kX4_skip l G hi h6) (cwV 1 hC.1.2.2.2.2 gX4_takeReading_X4_skip rfl rfl rfl (by decide +kernel) ⟨Nat.le_of_ble_eq_true rfl, Nat.le_of_ble_eq_true rfl⟩) hi (by decide) (ce4 hi) rfl rfl rfl rfl (Nat.le_of_ble_eq_true rfl) dX4_takeReading_10) ?_
    refine wa_if_ne hC 18 dX4_takeReading_13 (by decide) (fun c7 => ?_) (fun c7 => ?_)
    · have hf := ite_f hf c7
      refine wa_aload_n hC dX4_takeReading_18 rfl 0 rfl ?_
      refine wa_aload_n hC dX4_takeReading_19 rfl 0 rfl ?_
      refine wa_iconst (v := 5) hC dX4_takeReading_20 (by decide) ?_
      obtain ⟨⟨v8, M8⟩, h8, hf⟩ := bd hf
      dsimp only at hf
      refine wa_calli (rest := [_]) (wr_V hC (kX4_takeNumber l G hi h8) (cwV 1 hC.1.2.2.2.2 gX4_takeReading_X4_takeNumber rfl rfl rfl (by decide +kernel) ⟨Nat.le_of_ble_eq_true rfl, Nat.le_of_ble_eq_true rfl⟩) hi (by decide) (ce4 hi) rfl rfl rfl rfl (Nat.le_of_ble_eq_true rfl) dX4_takeReading_21) ?_
      refine rp4_5 hC fiX4_takeReading_4 hi mbX4_takeReading_55 dX4_takeReading_24 ?_
      refine wa_aload_n hC dX4_takeReading_27 rfl 0 rfl ?_
      refine rg4_5 hC fiX4_takeReading_4 hi mbX4_takeReading_55 dX4_takeReading_28 ?_
      refine wa_iconst (v := -1) hC dX4_takeReading_31 (by decide) ?_
      refine wa_icmp_eq hC 44 dX4_takeReading_32 (by decide) (fun c9 => ?_) (fun c9 => ?_)
      · have hf := ite_t hf c9
        refine wa_iconst (v := 0) hC dX4_takeReading_44 (by decide) ?_
        exact wa_zret hC hlk hr (congrArg b2 (congrArg Prod.fst (so_inj hf))) (congrArg Prod.snd (so_inj hf)) dX4_takeReading_45
      · have hf := ite_f hf c9
        refine wa_aload_n hC dX4_takeReading_35 rfl 0 rfl ?_
        refine wa_bipush (v := 112) hC dX4_takeReading_36 (by decide) ?_
        obtain ⟨⟨v10, M10⟩, h10, hf⟩ := bd hf
        dsimp only at hf
        refine wa_calli (rest := []) (wr_V hC (kX4_skip l G hi h10) (cwV 1 hC.1.2.2.2.2 gX4_takeReading_X4_skip rfl rfl rfl (by decide +kernel) ⟨Nat.le_of_ble_eq_true rfl, Nat.le_of_ble_eq_true rfl⟩) hi (by decide) (ce4 hi) rfl rfl rfl rfl (Nat.le_of_ble_eq_true rfl) dX4_takeReading_38) ?_
        refine wa_if_ne hC 46 dX4_takeReading_41 (by decide) (fun c11 => ?_) (fun c11 => ?_)
        · have hf := ite_f hf c11
          refine wa_aload_n hC dX4_takeReading_46 rfl 0 rfl ?_
          refine wa_aload_n hC dX4_takeReading_47 rfl 0 rfl ?_
          refine wa_bipush (v := 6) hC dX4_takeReading_48 (by decide) ?_
          obtain ⟨⟨v12, M12⟩, h12, hf⟩ := bd hf
          dsimp only at hf
          refine wa_calli (rest := [_]) (wr_V hC (kX4_takeNumber l G hi h12) (cwV 1 hC.1.2.2.2.2 gX4_takeReading_X4_takeNumber rfl rfl rfl (by decide +kernel) ⟨Nat.le_of_ble_eq_true rfl, Nat.le_of_ble_eq_true rfl⟩) hi (by decide) (ce4 hi) rfl rfl rfl rfl (Nat.le_of_ble_eq_true rfl) dX4_takeReading_50) ?_
          refine rp4_6 hC fiX4_takeReading_4 hi mbX4_takeReading_58 dX4_takeReading_53 ?_
          refine wa_aload_n hC dX4_takeReading_56 rfl 0 rfl ?_
          refine rg4_6 hC fiX4_takeReading_4 hi mbX4_takeReading_58 dX4_takeReading_57 ?_
          refine wa_iconst (v := -1) hC dX4_takeReading_60 (by decide) ?_
          refine wa_icmp_eq hC 73 dX4_takeReading_61 (by decide) (fun c13 => ?_) (fun c13 => ?_)
          · have hf := ite_t hf c13
            refine wa_iconst (v := 0) hC dX4_takeReading_73 (by decide) ?_
            exact wa_zret hC hlk hr (congrArg b2 (congrArg Prod.fst (so_inj hf))) (congrArg Prod.snd (so_inj hf)) dX4_takeReading_74
          · have hf := ite_f hf c13
            refine wa_aload_n hC dX4_takeReading_64 rfl 0 rfl ?_
            refine wa_bipush (v := 99) hC dX4_takeReading_65 (by decide) ?_
            obtain ⟨⟨v14, M14⟩, h14, hf⟩ := bd hf
            dsimp only at hf
            refine wa_calli (rest := []) (wr_V hC (kX4_skip l G hi h14) (cwV 1 hC.1.2.2.2.2 gX4_takeReading_X4_skip rfl rfl rfl (by decide +kernel) ⟨Nat.le_of_ble_eq_true rfl, Nat.le_of_ble_eq_true rfl⟩) hi (by decide) (ce4 hi) rfl rfl rfl rfl (Nat.le_of_ble_eq_true rfl) dX4_takeReading_67) ?_
            refine wa_if_ne hC 75 dX4_takeReading_70 (by decide) (fun c15 => ?_) (fun c15 => ?_)
            · have hf := ite_f hf c15
              refine wa_aload_n hC dX4_takeReading_75 rfl 0 rfl ?_
              refine wa_bipush (v := 45) hC dX4_takeReading_76 (by decide) ?_
              obtain ⟨⟨v16, M16⟩, h16, hf⟩ := bd hf
              dsimp only at hf
              refine wa_calli (rest := []) (wr_V hC (kX4_skip l G hi h16) (cwV 1 hC.1.2.2.2.2 gX4_takeReading_X4_skip rfl rfl rfl (by decide +kernel) ⟨Nat.le_of_ble_eq_true rfl, Nat.le_of_ble_eq_true rfl⟩) hi (by decide) (ce4 hi) rfl rfl rfl rfl (Nat.le_of_ble_eq_true rfl) dX4_takeReading_78) ?_
              refine wa_istore_n (lv' := [(1, .int _), (0, .ref _)]) hC dX4_takeReading_81 rfl (by decide) rfl ?_
              refine wa_aload_n hC dX4_takeReading_82 rfl 1 rfl ?_
              refine wa_iconst (v := 3) hC dX4_takeReading_83 (by decide) ?_
              obtain ⟨⟨v17, M17⟩, h17, hf⟩ := bd hf
              dsimp only at hf
              refine wa_calli (rest := []) (wr_V hC (kX4_takeNumber l G hi h17) (cwV 1 hC.1.2.2.2.2 gX4_takeReading_X4_takeNumber rfl rfl rfl (by decide +kernel) ⟨Nat.le_of_ble_eq_true rfl, Nat.le_of_ble_eq_true rfl⟩) hi (by decide) (ce4 hi) rfl rfl rfl rfl (Nat.le_of_ble_eq_true rfl) dX4_takeReading_84) ?_
              refine wa_istore_n (lv' := [(2, .int _), (1, .int _), (0, .ref _)]) hC dX4_takeReading_87 rfl (by decide) rfl ?_
              refine wa_aload_n hC dX4_takeReading_88 rfl 2 rfl ?_
              refine wa_iload_n hC dX4_takeReading_89 rfl 1 rfl ?_
              refine wa_if_eq hC 98 dX4_takeReading_90 (by decide) (fun c18 => ?_) (fun c18 => ?_)
              · have hf := ite_t hf c18
                refine wa_iload_n hC dX4_takeReading_98 rfl 0 rfl ?_
                exact wa_sub [2, 0] rfl (hJ99  _ _ _ hf)
              · have hf := ite_f hf c18
                refine wa_iload_n hC dX4_takeReading_93 rfl 0 rfl ?_
                refine wa_ineg hC dX4_takeReading_94 ?_
                refine wa_goto hC 99 dX4_takeReading_95 (by decide) ?_
                exact wa_sub [2, 0] rfl (hJ99  _ _ _ hf)
            · have hf := ite_t hf c15
              refine wa_iconst (v := 0) hC dX4_takeReading_73 (by decide) ?_
              exact wa_zret hC hlk hr (congrArg b2 (congrArg Prod.fst (so_inj hf))) (congrArg Prod.snd (so_inj hf)) dX4_takeReading_74
        · have hf := ite_t hf c11
          refine wa_iconst (v := 0) hC dX4_takeReading_44 (by decide) ?_
          exact wa_zret hC hlk hr (congrArg b2 (congrArg Prod.fst (so_inj hf))) (congrArg Prod.snd (so_inj hf)) dX4_takeReading_45
    · have hf := ite_t hf c7
      refine wa_iconst (v := 0) hC dX4_takeReading_16 (by decide) ?_
      exact wa_zret hC hlk hr (congrArg b2 (congrArg Prod.fst (so_inj hf))) (congrArg Prod.snd (so_inj hf)) dX4_takeReading_17
abbrev rmX6_isTime : Room := { frames := 1, cells := 0, slots := 0, locals := 22 }
set_option maxHeartbeats 4000000 in
set_option maxRecDepth 100000 in
theorem kX6_isTime (l : Launch) (G : wG) {x0 : Int32} {M0 : wM} {b : Bool} (hf : fX6_isTime x0 M0 = some b) : mI l yX6_isTime wsX6_isTime rmX6_isTime G [.int (x0)] M0 (b2 b) M0 := by
  refine mI.of (cc := cX6_isTime) (nL := 1) (ret := (some .boolean)) (own := RX6) (lv := [(0, .int (x0))]) (plainFor_of_name (by decide +kernel)) rfl rfl (Nat.le_of_ble_eq_true rfl) rfl ?_
  intro p e s m args below meth c hC hr hlk
  unfold fX6_isTime at hf
  refine wa_iload_n hC dX6_isTime_0 rfl 0 rfl ?_
  refine wa_iconst (v := 0) hC dX6_isTime_1 (by decide) ?_
  refine wa_sipush (v := 10000) hC dX6_isTime_2 (by decide) ?_
  obtain ⟨v1, h1, hf⟩ := bd hf
  refine wa_calli (rest := []) (wr_S hC (kX6_within l G h1) (va_cwS 3 hC.1.2.2.2.2 gX6_isTime_X6_within rfl rfl rfl (by decide +kernel) ⟨Nat.le_of_ble_eq_true rfl, Nat.le_of_ble_eq_true rfl⟩) rfl rfl (Nat.le_of_ble_eq_true rfl) dX6_isTime_5) ?_
  exact wa_zret hC hlk hr (congrArg b2 (so_inj hf)) rfl dX6_isTime_8
abbrev rmX6_isTemperature : Room := { frames := 1, cells := 0, slots := 0, locals := 22 }
set_option maxHeartbeats 4000000 in
set_option maxRecDepth 100000 in
theorem kX6_isTemperature (l : Launch) (G : wG) {x0 : Int32} {M0 : wM} {b : Bool} (hf : fX6_isTemperature x0 M0 = some b) : mI l yX6_isTemperature wsX6_isTemperature rmX6_isTemperature G [.int (x0)] M0 (b2 b) M0 := by
  refine mI.of (cc := cX6_isTemperature) (nL := 1) (ret := (some .boolean)) (own := RX6) (lv := [(0, .int (x0))]) (plainFor_of_name (by decide +kernel)) rfl rfl (Nat.le_of_ble_eq_true rfl) rfl ?_
  intro p e s m args below meth c hC hr hlk
  unfold fX6_isTemperature at hf
  refine wa_iload_n hC dX6_isTemperature_0 rfl 0 rfl ?_
  refine wa_sipush (v := -300) hC dX6_isTemperature_1 (by decide) ?_
  refine wa_sipush (v := 500) hC dX6_isTemperature_4 (by decide) ?_
  obtain ⟨v1, h1, hf⟩ := bd hf
  refine wa_calli (rest := []) (wr_S hC (kX6_within l G h1) (va_cwS 3 hC.1.2.2.2.2 gX6_isTemperature_X6_within rfl rfl rfl (by decide +kernel) ⟨Nat.le_of_ble_eq_true rfl, Nat.le_of_ble_eq_true rfl⟩) rfl rfl (Nat.le_of_ble_eq_true rfl) dX6_isTemperature_7) ?_
  exact wa_zret hC hlk hr (congrArg b2 (so_inj hf)) rfl dX6_isTemperature_10
abbrev rmX6_isReading : Room := { frames := 2, cells := 0, slots := 0, locals := 42 }
theorem mbX6_isReading_172 : Cond.constant RX6 172 (50000) ∈ wsX6_isReading := by decide +kernel
theorem mbX6_isReading_235 : Cond.constant RX6 235 (110000) ∈ wsX6_isReading := by decide +kernel
set_option maxHeartbeats 4000000 in
set_option maxRecDepth 100000 in
theorem kX6_isReading (l : Launch) (G : wG) {x0 : Int32} {x1 : Int32} {x2 : Int32} {M0 : wM} {b : Bool} (hf : fX6_isReading x0 x1 x2 M0 = some b) : mI l yX6_isReading wsX6_isReading rmX6_isReading G [.int (x0), .int (x1), .int (x2)] M0 (b2 b) M0 := by
  refine mI.of (cc := cX6_isReading) (nL := 3) (ret := (some .boolean)) (own := RX6) (lv := [(0, .int (x0)), (1, .int (x1)), (2, .int (x2))]) (plainFor_of_name (by decide +kernel)) rfl rfl (Nat.le_of_ble_eq_true rfl) rfl ?_
  intro p e s m args below meth c hC hr hlk
  unfold fX6_isReading at hf
  refine wa_iload_n hC dX6_isReading_0 rfl 0 rfl ?_
  obtain ⟨v1, h1, hf⟩ := bd hf
  refine wa_calli (rest := []) (wr_S hC (kX6_isTime l G h1) (va_cwS 1 hC.1.2.2.2.2 gX6_isReading_X6_isTime rfl rfl rfl (by decide +kernel) ⟨Nat.le_of_ble_eq_true rfl, Nat.le_of_ble_eq_true rfl⟩) rfl rfl (Nat.le_of_ble_eq_true rfl) dX6_isReading_1) ?_
  refine wa_if_eq hC 29 dX6_isReading_4 (by decide) (fun c2 => ?_) (fun c2 => ?_)
  · have hf := ite_t hf c2
    refine wa_iconst (v := 0) hC dX6_isReading_29 (by decide) ?_
    exact wa_zret hC hlk hr (congrArg b2 (so_inj hf)) rfl dX6_isReading_30
  · have hf := ite_f hf c2
    refine wa_iload_n hC dX6_isReading_7 rfl 1 rfl ?_
    refine wa_ldc hC mbX6_isReading_172 dX6_isReading_8 ?_
    refine wa_ldc hC mbX6_isReading_235 dX6_isReading_10 ?_
    obtain ⟨v3, h3, hf⟩ := bd hf
    refine wa_calli (rest := []) (wr_S hC (kX6_within l G h3) (va_cwS 3 hC.1.2.2.2.2 gX6_isReading_X6_within rfl rfl rfl (by decide +kernel) ⟨Nat.le_of_ble_eq_true rfl, Nat.le_of_ble_eq_true rfl⟩) rfl rfl (Nat.le_of_ble_eq_true rfl) dX6_isReading_12) ?_
    refine wa_if_eq hC 29 dX6_isReading_15 (by decide) (fun c4 => ?_) (fun c4 => ?_)
    · have hf := ite_t hf c4
      refine wa_iconst (v := 0) hC dX6_isReading_29 (by decide) ?_
      exact wa_zret hC hlk hr (congrArg b2 (so_inj hf)) rfl dX6_isReading_30
    · have hf := ite_f hf c4
      refine wa_iload_n hC dX6_isReading_18 rfl 2 rfl ?_
      obtain ⟨v5, h5, hf⟩ := bd hf
      refine wa_calli (rest := []) (wr_S hC (kX6_isTemperature l G h5) (va_cwS 1 hC.1.2.2.2.2 gX6_isReading_X6_isTemperature rfl rfl rfl (by decide +kernel) ⟨Nat.le_of_ble_eq_true rfl, Nat.le_of_ble_eq_true rfl⟩) rfl rfl (Nat.le_of_ble_eq_true rfl) dX6_isReading_19) ?_
      refine wa_if_eq hC 29 dX6_isReading_22 (by decide) (fun c6 => ?_) (fun c6 => ?_)
      · have hf := ite_t hf c6
        refine wa_iconst (v := 0) hC dX6_isReading_29 (by decide) ?_
        exact wa_zret hC hlk hr (congrArg b2 (so_inj hf)) rfl dX6_isReading_30
      · have hf := ite_f hf c6
        refine wa_iconst (v := 1) hC dX6_isReading_25 (by decide) ?_
        refine wa_goto hC 30 dX6_isReading_26 (by decide) ?_
        exact wa_zret hC hlk hr (congrArg b2 (so_inj hf)) rfl dX6_isReading_30
abbrev rmX4_reasonAgainst : Room := { frames := 3, cells := 0, slots := 0, locals := 65 }
theorem fiX4_reasonAgainst_4 : ∀ w ∈ u_ws RX4 TX4 11, w ∈ wsX4_reasonAgainst := by decide +kernel
theorem mbX4_reasonAgainst_36 : Cond.fieldLink RX4 36 "BaroRuns$Text" "cell" "I" ∈ wsX4_reasonAgainst := by decide +kernel
theorem mbX4_reasonAgainst_55 : Cond.fieldLink RX4 55 "BaroRuns$Text" "time" "I" ∈ wsX4_reasonAgainst := by decide +kernel
theorem mbX4_reasonAgainst_58 : Cond.fieldLink RX4 58 "BaroRuns$Text" "pressure" "I" ∈ wsX4_reasonAgainst := by decide +kernel
theorem mbX4_reasonAgainst_61 : Cond.fieldLink RX4 61 "BaroRuns$Text" "temperature" "I" ∈ wsX4_reasonAgainst := by decide +kernel
theorem mbX4_reasonAgainst_s70 : Cond.static yX6_isReading ∈ wsX4_reasonAgainst := by decide +kernel
theorem mbX4_reasonAgainst_i70 : Cond.initialized RX6 ∈ wsX4_reasonAgainst := by decide +kernel
set_option maxHeartbeats 4000000 in
set_option maxRecDepth 100000 in
theorem kX4_reasonAgainst (l : Launch) (G : wG) {i : Nat} (hi : kd i = 4) {j1 : Nat} (hj1 : kd j1 = 5) {M0 : wM} {r : Int32} (hf : fX4_reasonAgainst i j1 M0 = some r) : mI l yX4_reasonAgainst wsX4_reasonAgainst rmX4_reasonAgainst G [.ref (ga G (i)), .ref (ga G (j1))] M0 r M0 := by
  refine mI.of (cc := cX4_reasonAgainst) (nL := 2) (ret := (some .int)) (own := RX4) (lv := [(0, .ref (ga G (i))), (1, .ref (ga G (j1)))]) (plainFor_of_name (by decide +kernel)) rfl rfl (Nat.le_of_ble_eq_true rfl) rfl ?_
  intro p e s m args below meth c hC hr hlk
  unfold fX4_reasonAgainst at hf
  refine wa_aload_n hC dX4_reasonAgainst_0 rfl 0 rfl ?_
  refine rg4_3 hC fiX4_reasonAgainst_4 hi mbX4_reasonAgainst_36 dX4_reasonAgainst_1 ?_
  refine wa_iconst (v := 3) hC dX4_reasonAgainst_4 (by decide) ?_
  refine wa_icmp_ge hC 26 dX4_reasonAgainst_5 (by decide) (fun c1 => ?_) (fun c1 => ?_)
  · have hf := ite_t hf c1
    refine wa_iconst (v := 2) hC dX4_reasonAgainst_26 (by decide) ?_
    exact wa_iret hC hlk hr (so_inj hf) rfl dX4_reasonAgainst_27
  · have hf := ite_f hf c1
    refine wa_aload_n hC dX4_reasonAgainst_8 rfl 0 rfl ?_
    refine rg4_5 hC fiX4_reasonAgainst_4 hi mbX4_reasonAgainst_55 dX4_reasonAgainst_9 ?_
    refine wa_aload_n hC dX4_reasonAgainst_12 rfl 0 rfl ?_
    refine rg4_6 hC fiX4_reasonAgainst_4 hi mbX4_reasonAgainst_58 dX4_reasonAgainst_13 ?_
    refine wa_aload_n hC dX4_reasonAgainst_16 rfl 0 rfl ?_
    refine rg4_7 hC fiX4_reasonAgainst_4 hi mbX4_reasonAgainst_61 dX4_reasonAgainst_17 ?_
    obtain ⟨v2, h2, hf⟩ := bd hf
    refine wa_calli (rest := []) (wr_SN hC (kX6_isReading l G h2) ⟨va_cnB 3 hC.1.2.2.2.2 gX4_reasonAgainst_X6_isReading_n70 rfl rfl rfl (nwm_Text_70 hC.2.2.2) (hC.1.2.2.2.2 _ mbX4_reasonAgainst_i70) (by decide +kernel) ⟨Nat.le_of_ble_eq_true rfl, Nat.le_of_ble_eq_true rfl⟩, hC.1.2.2.2.2 _ mbX4_reasonAgainst_s70, trivial⟩ rfl rfl (Nat.le_of_ble_eq_true rfl) dX4_reasonAgainst_20) ?_
    refine wa_if_ne hC 28 dX4_reasonAgainst_23 (by decide) (fun c3 => ?_) (fun c3 => ?_)
    · have hf := ite_f hf c3
      refine wa_aload_n hC dX4_reasonAgainst_28 rfl 1 rfl ?_
      refine wa_aload_n hC dX4_reasonAgainst_29 rfl 0 rfl ?_
      refine rg4_5 hC fiX4_reasonAgainst_4 hi mbX4_reasonAgainst_55 dX4_reasonAgainst_30 ?_
      obtain ⟨v4, h4, hf⟩ := bd hf
      refine wa_calli (rest := []) (wr_V hC (kX5_hasTime l G hj1 h4) (cwV 1 hC.1.2.2.2.2 gX4_reasonAgainst_X5_hasTime rfl rfl rfl (by decide +kernel) ⟨Nat.le_of_ble_eq_true rfl, Nat.le_of_ble_eq_true rfl⟩) hj1 (by decide) (ce5 hj1) rfl rfl rfl rfl (Nat.le_of_ble_eq_true rfl) dX4_reasonAgainst_33) ?_
      refine wa_if_eq hC 41 dX4_reasonAgainst_36 (by decide) (fun c5 => ?_) (fun c5 => ?_)
      · have hf := ite_t hf c5
        refine wa_aload_n hC dX4_reasonAgainst_41 rfl 1 rfl ?_
        obtain ⟨v6, h6, hf⟩ := bd hf
        refine wa_calli (rest := []) (wr_V hC (kX5_isFull l G hj1 h6) (cwV 0 hC.1.2.2.2.2 gX4_reasonAgainst_X5_isFull rfl rfl rfl (by decide +kernel) ⟨Nat.le_of_ble_eq_true rfl, Nat.le_of_ble_eq_true rfl⟩) hj1 (by decide) (ce5 hj1) rfl rfl rfl rfl (Nat.le_of_ble_eq_true rfl) dX4_reasonAgainst_42) ?_
        refine wa_if_eq hC 52 dX4_reasonAgainst_45 (by decide) (fun c7 => ?_) (fun c7 => ?_)
        · have hf := ite_t hf c7
          refine wa_iconst (v := 0) hC dX4_reasonAgainst_52 (by decide) ?_
          exact wa_iret hC hlk hr (so_inj hf) rfl dX4_reasonAgainst_53
        · have hf := ite_f hf c7
          refine wa_iconst (v := 4) hC dX4_reasonAgainst_48 (by decide) ?_
          refine wa_goto hC 53 dX4_reasonAgainst_49 (by decide) ?_
          exact wa_iret hC hlk hr (so_inj hf) rfl dX4_reasonAgainst_53
      · have hf := ite_f hf c5
        refine wa_iconst (v := 3) hC dX4_reasonAgainst_39 (by decide) ?_
        exact wa_iret hC hlk hr (so_inj hf) rfl dX4_reasonAgainst_40
    · have hf := ite_t hf c3
      refine wa_iconst (v := 2) hC dX4_reasonAgainst_26 (by decide) ?_
      exact wa_iret hC hlk hr (so_inj hf) rfl dX4_reasonAgainst_27
abbrev rmX4_readInto : Room := { frames := 4, cells := 0, slots := 0, locals := 92 }
theorem fiX4_readInto_4 : ∀ w ∈ u_ws RX4 TX4 11, w ∈ wsX4_readInto := by decide +kernel
theorem mbX4_readInto_49 : Cond.fieldLink RX4 49 "BaroRuns$Text" "faultReason" "I" ∈ wsX4_readInto := by decide +kernel
theorem mbX4_readInto_36 : Cond.fieldLink RX4 36 "BaroRuns$Text" "cell" "I" ∈ wsX4_readInto := by decide +kernel
theorem mbX4_readInto_52 : Cond.fieldLink RX4 52 "BaroRuns$Text" "point" "I" ∈ wsX4_readInto := by decide +kernel
theorem mbX4_readInto_55 : Cond.fieldLink RX4 55 "BaroRuns$Text" "time" "I" ∈ wsX4_readInto := by decide +kernel
theorem mbX4_readInto_58 : Cond.fieldLink RX4 58 "BaroRuns$Text" "pressure" "I" ∈ wsX4_readInto := by decide +kernel
theorem mbX4_readInto_61 : Cond.fieldLink RX4 61 "BaroRuns$Text" "temperature" "I" ∈ wsX4_readInto := by decide +kernel
theorem mbX4_readInto_29 : Cond.fieldLink RX4 29 "BaroRuns$Text" "taken" "I" ∈ wsX4_readInto := by decide +kernel
theorem mbX4_readInto_15 : Cond.fieldLink RX4 15 "BaroRuns$Text" "faultPosition" "I" ∈ wsX4_readInto := by decide +kernel
theorem mbX4_readInto_26 : Cond.fieldLink RX4 26 "BaroRuns$Text" "position" "I" ∈ wsX4_readInto := by decide +kernel
theorem mbX4_readInto_19 : Cond.fieldLink RX4 19 "BaroRuns$Text" "length" "I" ∈ wsX4_readInto := by decide +kernel
set_option maxHeartbeats 4000000 in
set_option maxRecDepth 100000 in
theorem kX4_readInto (l : Launch) (G : wG) {i : Nat} (hi : kd i = 4) {j1 : Nat} (hj1 : kd j1 = 2) {M0 M1 : wM} (hf : fX4_readInto i j1 M0 = some M1) : mV l yX4_readInto wsX4_readInto rmX4_readInto G [.ref (ga G (i)), .ref (ga G (j1))] M0 M1 := by
  refine mV.of (cc := cX4_readInto) (nL := 4) (ret := none) (own := RX4) (lv := [(0, .ref (ga G (i))), (1, .ref (ga G (j1)))]) (plainFor_of_name (by decide +kernel)) rfl rfl (Nat.le_of_ble_eq_true rfl) rfl ?_
  intro p e s m args below meth c hC hr hlk
  have hJ63 : ∀ (bk17 : Int32 → wM → Option wM) (hbk17 : (∀ (x2 : Int32) (M0 : wM), bk17 x2 M0 = some M1 → wAt p l e rmX4_readInto s m args below meth c (qV below args s G M1) 4 G M0 17 [(0, .ref (ga G (i))), (1, .ref (ga G (j1))), (2, .int (x2))] [])) (x2 : Int32) (x3 : Int32) (s1 : Int32) (M0 : wM), fX4_readInto_J63 i j1 bk17 x2 x3 s1 M0 = some M1 → wAt p l e rmX4_readInto s m args below meth c (qV below args s G M1) 4 G M0 63 [(0, .ref (ga G (i))), (1, .ref (ga G (j1))), (2, .int (x2)), (3, .int (x3))] [.int (s1), .ref (ga G (i))] := by
    intro bk17 hbk17 x2 x3 s1 M0 hf
    unfold fX4_readInto_J63 at hf
    refine rp4_10 hC fiX4_readInto_4 hi mbX4_readInto_49 dX4_readInto_63 ?_
    refine wa_aload_n hC dX4_readInto_66 rfl 0 rfl ?_
    refine rg4_10 hC fiX4_readInto_4 hi mbX4_readInto_49 dX4_readInto_67 ?_
    refine wa_if_eq hC 79 dX4_readInto_70 (by decide) (fun c1 => ?_) (fun c1 => ?_)
    · have hf := ite_t hf c1
      refine wa_aload_n hC dX4_readInto_79 rfl 1 rfl ?_
      refine wa_aload_n hC dX4_readInto_80 rfl 0 rfl ?_
      refine rg4_3 hC fiX4_readInto_4 hi mbX4_readInto_36 dX4_readInto_81 ?_
      obtain ⟨v2, h2, hf⟩ := bd hf
      refine wa_callr (rest := []) (wr_V hC (kX2_track l G hj1 h2) (cwV 1 hC.1.2.2.2.2 gX4_readInto_X2_track rfl rfl rfl (by decide +kernel) ⟨Nat.le_of_ble_eq_true rfl, Nat.le_of_ble_eq_true rfl⟩) hj1 (by decide) (ce2 hj1) rfl rfl rfl rfl (Nat.le_of_ble_eq_true rfl) dX4_readInto_84) ?_
      obtain ⟨_, g3, hf⟩ := bd hf
      have g3 := gk_some g3
      refine wa_aload_n hC dX4_readInto_87 rfl 0 rfl ?_
      refine rg4_4 hC fiX4_readInto_4 hi mbX4_readInto_52 dX4_readInto_88 ?_
      refine wa_aload_n hC dX4_readInto_91 rfl 0 rfl ?_
      refine rg4_5 hC fiX4_readInto_4 hi mbX4_readInto_55 dX4_readInto_92 ?_
      refine wa_aload_n hC dX4_readInto_95 rfl 0 rfl ?_
      refine rg4_6 hC fiX4_readInto_4 hi mbX4_readInto_58 dX4_readInto_96 ?_
      refine wa_aload_n hC dX4_readInto_99 rfl 0 rfl ?_
      refine rg4_7 hC fiX4_readInto_4 hi mbX4_readInto_61 dX4_readInto_100 ?_
      obtain ⟨⟨v4, M4⟩, h4, hf⟩ := bd hf
      dsimp only at hf
      refine wa_calli (rest := []) (wr_V hC (kX5_insert l G g3 h4) (cwV 4 hC.1.2.2.2.2 gX4_readInto_X5_insert rfl rfl rfl (by decide +kernel) ⟨Nat.le_of_ble_eq_true rfl, Nat.le_of_ble_eq_true rfl⟩) g3 (by decide) (ce5 g3) rfl rfl rfl rfl (Nat.le_of_ble_eq_true rfl) dX4_readInto_103) ?_
      refine wa_pop hC dX4_readInto_106 rfl ?_
      refine wa_aload_n hC dX4_readInto_107 rfl 0 rfl ?_
      refine wa_dup hC dX4_readInto_108 rfl ?_
      refine rg4_8 hC fiX4_readInto_4 hi mbX4_readInto_29 dX4_readInto_109 ?_
      refine wa_iconst (v := 1) hC dX4_readInto_112 (by decide) ?_
      refine wa_iadd hC dX4_readInto_113 ?_
      refine rp4_8 hC fiX4_readInto_4 hi mbX4_readInto_29 dX4_readInto_114 ?_
      refine wa_iinc (v := _ + 1) (lv' := [(2, .int _), (0, .ref _), (1, .ref _), (3, .int _)]) hC dX4_readInto_117 (t := 2) rfl rfl (by decide) rfl ?_
      refine wa_goto hC 17 dX4_readInto_120 (by decide) ?_
      exact wa_sub [1, 2, 0] rfl (hbk17 _ _ hf)
    · have hf := ite_f hf c1
      refine wa_aload_n hC dX4_readInto_73 rfl 0 rfl ?_
      refine wa_iload_n hC dX4_readInto_74 rfl 3 rfl ?_
      refine rp4_9 hC fiX4_readInto_4 hi mbX4_readInto_15 dX4_readInto_75 ?_
      exact wa_vret hC hlk hr (so_inj hf) dX4_readInto_78
  have hB17 : ∀ (bk17 : Int32 → wM → Option wM) (hbk17 : (∀ (x2 : Int32) (M0 : wM), bk17 x2 M0 = some M1 → wAt p l e rmX4_readInto s m args below meth c (qV below args s G M1) 4 G M0 17 [(0, .ref (ga G (i))), (1, .ref (ga G (j1))), (2, .int (x2))] [])) (x2 : Int32) (M0 : wM), fX4_readInto_B17 i j1 bk17 x2 M0 = some M1 → wAt p l e rmX4_readInto s m args below meth c (qV below args s G M1) 4 G M0 17 [(0, .ref (ga G (i))), (1, .ref (ga G (j1))), (2, .int (x2))] [] := by
    intro bk17 hbk17 x2 M0 hf
    unfold fX4_readInto_B17 at hf
    refine wa_iload_n hC dX4_readInto_17 rfl 2 rfl ?_
    refine wa_bipush (v := 100) hC dX4_readInto_18 (by decide) ?_
    refine wa_icmp_ge hC 123 dX4_readInto_20 (by decide) (fun c5 => ?_) (fun c5 => ?_)
    · have hf := ite_t hf c5
      exact wa_vret hC hlk hr (so_inj hf) dX4_readInto_123
    · have hf := ite_f hf c5
      refine wa_aload_n hC dX4_readInto_23 rfl 0 rfl ?_
      refine rg4_2 hC fiX4_readInto_4 hi mbX4_readInto_26 dX4_readInto_24 ?_
      refine wa_aload_n hC dX4_readInto_27 rfl 0 rfl ?_
      refine rg4_1 hC fiX4_readInto_4 hi mbX4_readInto_19 dX4_readInto_28 ?_
      refine wa_icmp_ge hC 123 dX4_readInto_31 (by decide) (fun c6 => ?_) (fun c6 => ?_)
      · have hf := ite_t hf c6
        exact wa_vret hC hlk hr (so_inj hf) dX4_readInto_123
      · have hf := ite_f hf c6
        refine wa_aload_n hC dX4_readInto_34 rfl 0 rfl ?_
        refine rg4_2 hC fiX4_readInto_4 hi mbX4_readInto_26 dX4_readInto_35 ?_
        refine wa_istore_n (lv' := [(3, .int _), (0, .ref _), (1, .ref _), (2, .int _)]) hC dX4_readInto_38 rfl (by decide) rfl ?_
        refine wa_aload_n hC dX4_readInto_39 rfl 1 rfl ?_
        refine wa_aload_n hC dX4_readInto_40 rfl 1 rfl ?_
        obtain ⟨⟨v7, M7⟩, h7, hf⟩ := bd hf
        dsimp only at hf
        refine wa_calli (rest := [_]) (wr_V hC (kX4_takeReading l G hi h7) (cwV 0 hC.1.2.2.2.2 gX4_readInto_X4_takeReading rfl rfl rfl (by decide +kernel) ⟨Nat.le_of_ble_eq_true rfl, Nat.le_of_ble_eq_true rfl⟩) hi (by decide) (ce4 hi) rfl rfl rfl rfl (Nat.le_of_ble_eq_true rfl) dX4_readInto_41) ?_
        refine wa_if_eq hC 62 dX4_readInto_44 (by decide) (fun c8 => ?_) (fun c8 => ?_)
        · have hf := ite_t hf c8
          refine wa_iconst (v := 1) hC dX4_readInto_62 (by decide) ?_
          exact wa_sub [1, 2, 3, 0] rfl (hJ63 bk17 hbk17 _ _ _ _ hf)
        · have hf := ite_f hf c8
          refine wa_aload_n hC dX4_readInto_47 rfl 1 rfl ?_
          refine wa_aload_n hC dX4_readInto_48 rfl 2 rfl ?_
          refine wa_aload_n hC dX4_readInto_49 rfl 1 rfl ?_
          refine rg4_3 hC fiX4_readInto_4 hi mbX4_readInto_36 dX4_readInto_50 ?_
          obtain ⟨v9, h9, hf⟩ := bd hf
          refine wa_callr (rest := [_, _]) (wr_V hC (kX2_track l G hj1 h9) (cwV 1 hC.1.2.2.2.2 gX4_readInto_X2_track rfl rfl rfl (by decide +kernel) ⟨Nat.le_of_ble_eq_true rfl, Nat.le_of_ble_eq_true rfl⟩) hj1 (by decide) (ce2 hj1) rfl rfl rfl rfl (Nat.le_of_ble_eq_true rfl) dX4_readInto_53) ?_
          obtain ⟨_, g10, hf⟩ := bd hf
          have g10 := gk_some g10
          obtain ⟨v11, h11, hf⟩ := bd hf
          refine wa_calli (rest := [_]) (wr_V hC (kX4_reasonAgainst l G hi g10 h11) (cwV 1 hC.1.2.2.2.2 gX4_readInto_X4_reasonAgainst rfl rfl rfl (by decide +kernel) ⟨Nat.le_of_ble_eq_true rfl, Nat.le_of_ble_eq_true rfl⟩) hi (by decide) (ce4 hi) rfl rfl rfl rfl (Nat.le_of_ble_eq_true rfl) dX4_readInto_56) ?_
          refine wa_goto hC 63 dX4_readInto_59 (by decide) ?_
          exact wa_sub [1, 2, 3, 0] rfl (hJ63 bk17 hbk17 _ _ _ _ hf)
  have hL17 : ∀ (n : Nat) (x2 : Int32) (M0 : wM), fX4_readInto_L17 i j1  n x2 M0 = some M1 → wAt p l e rmX4_readInto s m args below meth c (qV below args s G M1) 4 G M0 17 [(0, .ref (ga G (i))), (1, .ref (ga G (j1))), (2, .int (x2))] [] := by
    intro  n
    induction n with
    | zero =>
      intro x2 M0 hf
      exact absurd hf (by simp [fX4_readInto_L17])
    | succ n ih =>
      intro x2 M0 hf
      exact hB17  (fX4_readInto_L17 i j1  n) ih x2 M0 hf
  unfold fX4_readInto at hf
  refine wa_aload_n hC dX4_readInto_0 rfl 0 rfl ?_
  refine wa_iconst (v := 0) hC dX4_readInto_1 (by decide) ?_
  refine rp4_2 hC fiX4_readInto_4 hi mbX4_readInto_26 dX4_readInto_2 ?_
  refine wa_aload_n hC dX4_readInto_5 rfl 0 rfl ?_
  refine wa_iconst (v := 0) hC dX4_readInto_6 (by decide) ?_
  refine rp4_8 hC fiX4_readInto_4 hi mbX4_readInto_29 dX4_readInto_7 ?_
  refine wa_aload_n hC dX4_readInto_10 rfl 0 rfl ?_
  refine wa_iconst (v := -1) hC dX4_readInto_11 (by decide) ?_
  refine rp4_9 hC fiX4_readInto_4 hi mbX4_readInto_15 dX4_readInto_12 ?_
  refine wa_iconst (v := 0) hC dX4_readInto_15 (by decide) ?_
  refine wa_istore_n (lv' := [(2, .int _), (0, .ref _), (1, .ref _)]) hC dX4_readInto_16 rfl (by decide) rfl ?_
  exact wa_sub [1, 2, 0] rfl (hL17 FU _ _ hf)
